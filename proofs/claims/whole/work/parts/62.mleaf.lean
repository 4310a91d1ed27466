theorem isl {v : Option Value} {h : mH} : (∀ o : mO, (some (Sum.inl v, h) : Option mO) = some o → o.1.isLeft = true) = True := by
  apply eq_true
  intro o e
  cases e
  rfl
theorem pp_c {p i j : Nat} : (p + i = p + j) = (i = j) := propext Nat.add_left_cancel_iff
theorem pp_l {p i : Nat} : (p + i = p) = (i = 0) := by apply propext; omega
theorem pp_r {p i : Nat} : (p = p + i) = (i = 0) := by apply propext; omega
theorem pp_k {p i k : Nat} (hp : isP p) (hk : k ≤ 322) : (p + i = k) = False := by apply propext; rcases hp with rfl | rfl <;> (constructor <;> intro h <;> first | omega | exact h.elim)
theorem pp_k0 {p k : Nat} (hp : isP p) (hk : k ≤ 322) : (p = k) = False := by apply propext; rcases hp with rfl | rfl <;> (constructor <;> intro h <;> first | omega | exact h.elim)
theorem pp_j {p i k : Nat} (hp : isP p) (hk : k ≤ 322) : (k = p + i) = False := by apply propext; rcases hp with rfl | rfl <;> (constructor <;> intro h <;> first | omega | exact h.elim)
theorem pp_j0 {p k : Nat} (hp : isP p) (hk : k ≤ 322) : (k = p) = False := by apply propext; rcases hp with rfl | rfl <;> (constructor <;> intro h <;> first | omega | exact h.elim)
/-! LEAVES OF THE MODEL -/
theorem m_isIn {d : Nat} {h : mH} {v a b : Int32} : mCall (d + 1) 27 [.int v, .int a, .int b] h = some (.inl (some (.int (bz (inR v a b)))), h) := by
  by_cases c : inR v a b = true
  · obtain ⟨p1, p2⟩ := inR_p c
    rw [c]
    simp (maxDischargeDepth := 60) only [p1, p2, x_27_0, x_27_1, x_27_2, x_27_5, x_27_6, x_27_7, x_27_10, x_27_11, x_27_14, x_27_15, c_27, bz, Option.bind_some, mAft_n, mAft_v, mAft_x, mS_n, mS_i, mS_r, mS_l, mS_d, ne_eq, not_false_eq_true, not_true_eq_false, true_or, or_true, and_true, true_and, if_true, if_false, ite_true, ite_false, reduceIte, Nat.reduceAdd, Nat.reduceLeDiff, Nat.reduceEqDiff, false_and, and_false, or_false, false_or, eq_self, reduceCtorEq]
  · rw [(Bool.not_eq_true _).mp c]
    rcases inR_n c with p1 | ⟨p1, p2⟩
    · simp (maxDischargeDepth := 60) only [p1, x_27_0, x_27_1, x_27_2, x_27_5, x_27_6, x_27_7, x_27_10, x_27_11, x_27_14, x_27_15, c_27, bz, Bool.false_eq_true, Option.bind_some, mAft_n, mAft_v, mAft_x, mS_n, mS_i, mS_r, mS_l, mS_d, ne_eq, not_false_eq_true, not_true_eq_false, true_or, or_true, and_true, true_and, if_true, if_false, ite_true, ite_false, reduceIte, Nat.reduceAdd, Nat.reduceLeDiff, Nat.reduceEqDiff, false_and, and_false, or_false, false_or, eq_self, reduceCtorEq]
    · simp (maxDischargeDepth := 60) only [p1, p2, x_27_0, x_27_1, x_27_2, x_27_5, x_27_6, x_27_7, x_27_10, x_27_11, x_27_14, x_27_15, c_27, bz, Bool.false_eq_true, Option.bind_some, mAft_n, mAft_v, mAft_x, mS_n, mS_i, mS_r, mS_l, mS_d, ne_eq, not_false_eq_true, not_true_eq_false, true_or, or_true, and_true, true_and, if_true, if_false, ite_true, ite_false, reduceIte, Nat.reduceAdd, Nat.reduceLeDiff, Nat.reduceEqDiff, false_and, and_false, or_false, false_or, eq_self, reduceCtorEq]
theorem m_isLetter {d : Nat} {h : mH} {x : Int32} : mCall (d + 2) 96 [.int x] h = some (.inl (some (.int (bz (isLt x)))), h) := by
  have b0 : ∀ b, bz b = 0 ∨ bz b = 1 := fun _ => bz_1
  have e : inR x 97 122 = isLt x := rfl
  simp (maxDischargeDepth := 60) only [x_96_0, x_96_1, x_96_3, x_96_5, x_96_8, c_96, m_isIn, b0, e, Option.bind_some, mAft_n, mAft_v, mAft_x, mS_n, mS_i, mS_r, mS_l, mS_d, ne_eq, not_false_eq_true, not_true_eq_false, true_or, or_true, and_true, true_and, if_true, if_false, ite_true, ite_false, reduceIte, Nat.reduceAdd, Nat.reduceLeDiff, Nat.reduceEqDiff, false_and, and_false, or_false, false_or, eq_self, reduceCtorEq]
theorem m_isDigit {d : Nat} {h : mH} {x : Int32} : mCall (d + 2) 97 [.int x] h = some (.inl (some (.int (bz (isDg x)))), h) := by
  have b0 : ∀ b, bz b = 0 ∨ bz b = 1 := fun _ => bz_1
  have e : inR x 48 57 = isDg x := rfl
  simp (maxDischargeDepth := 60) only [x_97_0, x_97_1, x_97_3, x_97_5, x_97_8, c_97, m_isIn, b0, e, Option.bind_some, mAft_n, mAft_v, mAft_x, mS_n, mS_i, mS_r, mS_l, mS_d, ne_eq, not_false_eq_true, not_true_eq_false, true_or, or_true, and_true, true_and, if_true, if_false, ite_true, ite_false, reduceIte, Nat.reduceAdd, Nat.reduceLeDiff, Nat.reduceEqDiff, false_and, and_false, or_false, false_or, eq_self, reduceCtorEq]
def mcd (x : Int32) : Int32 := if isDg x = true then x - 48 + 27 else x - 97 + 1
theorem m_code {d : Nat} {h : mH} {x : Int32} : mCall (d + 3) 98 [.int x] h = some (.inl (some (.int (mcd x))), h) := by
  unfold mcd
  cases c : isDg x
  · simp (maxDischargeDepth := 60) only [x_98_0, x_98_1, x_98_4, x_98_7, x_98_8, x_98_10, x_98_11, x_98_13, x_98_14, x_98_17, x_98_18, x_98_20, x_98_21, x_98_22, x_98_23, c_98, m_isDigit, c, bz_0, Bool.false_eq_true, Option.bind_some, mAft_n, mAft_v, mAft_x, mS_n, mS_i, mS_r, mS_l, mS_d, ne_eq, not_false_eq_true, not_true_eq_false, true_or, or_true, and_true, true_and, if_true, if_false, ite_true, ite_false, reduceIte, Nat.reduceAdd, Nat.reduceLeDiff, Nat.reduceEqDiff, false_and, and_false, or_false, false_or, eq_self, reduceCtorEq]
  · simp (maxDischargeDepth := 60) only [x_98_0, x_98_1, x_98_4, x_98_7, x_98_8, x_98_10, x_98_11, x_98_13, x_98_14, x_98_17, x_98_18, x_98_20, x_98_21, x_98_22, x_98_23, c_98, m_isDigit, c, bz_0, Bool.true_eq_false, Option.bind_some, mAft_n, mAft_v, mAft_x, mS_n, mS_i, mS_r, mS_l, mS_d, ne_eq, not_false_eq_true, not_true_eq_false, true_or, or_true, and_true, true_and, if_true, if_false, ite_true, ite_false, reduceIte, Nat.reduceAdd, Nat.reduceLeDiff, Nat.reduceEqDiff, false_and, and_false, or_false, false_or, eq_self, reduceCtorEq]
theorem m_no {d : Nat} {h : mH} {x : Int32} (hk : kM h) : mCall (d + 1) 20 [.ref 316, .int x] h = some (.inl (some (.int 0)), mSI h 316 0 x) := by
  simp (maxDischargeDepth := 60) only [hk, x_20_0, x_20_1, x_20_2, x_20_5, x_20_6, c_20, Option.bind_some, mAft_n, mAft_v, mAft_x, mS_n, mS_i, mS_r, mS_l, mS_d, ne_eq, not_false_eq_true, not_true_eq_false, true_or, or_true, and_true, true_and, if_true, if_false, ite_true, ite_false, reduceIte, Nat.reduceAdd, Nat.reduceLeDiff, Nat.reduceEqDiff, false_and, and_false, or_false, false_or, eq_self, reduceCtorEq, mi_316, mi_317, ml_317, mi_318, ml_318, mi_319, ml_319, mi_320, ml_320, mi_321, ml_321, mi_322, ml_322, mi_359, ml_359, mv_316_1, mv_316_4, mv_316_7, mv_316_8, mv_316_9, mv_316_10, mv_316_13, mv_316_14, mv_316_15, pi_0, pi_1, pl_1, pv_1, pi_2, pl_2, pv_2, pi_3, pl_3, pv_3, pi_4, pl_4, pv_4, pi_5, pl_5, pv_5, pi_6, pl_6, pv_10, pi_7, pl_7, pv_11, pi_8, pl_8, pv_12, pi_9, pl_9, pv_13, pi_10, pl_10, pv_14, pi_11, pl_11, pv_15, pv_20, wi_0, wi_1, wl_1, wv_14, wi_2, wl_2, wv_15, wi_3, wl_3, wv_16, wi_4, wl_4, wv_17, wi_5, wl_5, wv_18, wv_21, pt_P, pt_v, pt_w, pt_SI, pt_SL, kM_SI, kM_SL, lI_SL, lV_SL, lK_SL, lN_SL, lL_SL, lIs_SL, nI_SI, nV_SI, nK_SI, nN_SI, nL_SI, nIs_SI, pp_c, pp_l, pp_r, pp_k, pp_k0, pp_j, pp_j0, isl]
theorem m_thrown {d : Nat} {h : mH} (hk : kM h) : mCall (d + 1) 22 [.ref 316] h = some (.inl (some (.int (mI h 316 0))), h) := by
  simp (maxDischargeDepth := 60) only [hk, x_22_0, x_22_1, x_22_4, c_22, Option.bind_some, mAft_n, mAft_v, mAft_x, mS_n, mS_i, mS_r, mS_l, mS_d, ne_eq, not_false_eq_true, not_true_eq_false, true_or, or_true, and_true, true_and, if_true, if_false, ite_true, ite_false, reduceIte, Nat.reduceAdd, Nat.reduceLeDiff, Nat.reduceEqDiff, false_and, and_false, or_false, false_or, eq_self, reduceCtorEq, mi_316, mi_317, ml_317, mi_318, ml_318, mi_319, ml_319, mi_320, ml_320, mi_321, ml_321, mi_322, ml_322, mi_359, ml_359, mv_316_1, mv_316_4, mv_316_7, mv_316_8, mv_316_9, mv_316_10, mv_316_13, mv_316_14, mv_316_15, pi_0, pi_1, pl_1, pv_1, pi_2, pl_2, pv_2, pi_3, pl_3, pv_3, pi_4, pl_4, pv_4, pi_5, pl_5, pv_5, pi_6, pl_6, pv_10, pi_7, pl_7, pv_11, pi_8, pl_8, pv_12, pi_9, pl_9, pv_13, pi_10, pl_10, pv_14, pi_11, pl_11, pv_15, pv_20, wi_0, wi_1, wl_1, wv_14, wi_2, wl_2, wv_15, wi_3, wl_3, wv_16, wi_4, wl_4, wv_17, wi_5, wl_5, wv_18, wv_21, pt_P, pt_v, pt_w, pt_SI, pt_SL, kM_SI, kM_SL, lI_SL, lV_SL, lK_SL, lN_SL, lL_SL, lIs_SL, nI_SI, nV_SI, nK_SI, nN_SI, nL_SI, nIs_SI, pp_c, pp_l, pp_r, pp_k, pp_k0, pp_j, pp_j0, isl]
def isCm (x : Int32) : Bool := decide (x = 60) || decide (x = 62) || decide (x = 61) || decide (x = 204) || decide (x = 205)
theorem m_isCmp {d : Nat} {h : mH} {x : Int32} : mCall (d + 1) 116 [.int x] h = some (.inl (some (.int (bz (isCm x)))), h) := by
  unfold isCm
  simp (maxDischargeDepth := 60) only [x_116_0, x_116_1, x_116_3, x_116_6, x_116_7, x_116_9, x_116_12, x_116_13, x_116_15, x_116_18, x_116_19, x_116_22, x_116_25, x_116_26, x_116_29, x_116_32, x_116_33, x_116_36, x_116_37, c_116, Option.bind_some, mAft_n, mAft_v, mAft_x, mS_n, mS_i, mS_r, mS_l, mS_d, ne_eq, not_false_eq_true, not_true_eq_false, true_or, or_true, and_true, true_and, if_true, if_false, ite_true, ite_false, reduceIte, Nat.reduceAdd, Nat.reduceLeDiff, Nat.reduceEqDiff, false_and, and_false, or_false, false_or, eq_self, reduceCtorEq]
  repeat' split
  all_goals simp_all [bz]
/-- the parser's failure -/
def mFl (h : mH) (p : Nat) : mH := mSI (mSI h p 18 1) p 19 (mI h (p + 3) (mI h p 16).toNatClampNeg)
theorem m_fail {d p i : Nat} {h : mH} (hk : kM h) (hp : isP p) (hi : mI h p 16 = Int32.ofNat i) (hb : i < 402) : mCall (d + 1) 101 [.ref p] h = some (.inl (some (.int 0)), mFl h p) := by
  have hj : mIn (Int32.ofNat i) 402 = true := i_in (by rw [i_of_i (by omega)]; omega) (by rw [i_of_i (by omega)]; omega)
  have z0 : (0 : Int32) = 0 ∨ (0 : Int32) = 1 := Or.inl rfl
  unfold mFl
  simp (maxDischargeDepth := 60) only [hk, x_101_0, x_101_1, x_101_2, x_101_5, x_101_6, x_101_7, x_101_10, x_101_11, x_101_14, x_101_15, x_101_18, x_101_19, c_101, hp, hi, hj, z0, Option.bind_some, mAft_n, mAft_v, mAft_x, mS_n, mS_i, mS_r, mS_l, mS_d, ne_eq, not_false_eq_true, not_true_eq_false, true_or, or_true, and_true, true_and, if_true, if_false, ite_true, ite_false, reduceIte, Nat.reduceAdd, Nat.reduceLeDiff, Nat.reduceEqDiff, false_and, and_false, or_false, false_or, eq_self, reduceCtorEq, mi_316, mi_317, ml_317, mi_318, ml_318, mi_319, ml_319, mi_320, ml_320, mi_321, ml_321, mi_322, ml_322, mi_359, ml_359, mv_316_1, mv_316_4, mv_316_7, mv_316_8, mv_316_9, mv_316_10, mv_316_13, mv_316_14, mv_316_15, pi_0, pi_1, pl_1, pv_1, pi_2, pl_2, pv_2, pi_3, pl_3, pv_3, pi_4, pl_4, pv_4, pi_5, pl_5, pv_5, pi_6, pl_6, pv_10, pi_7, pl_7, pv_11, pi_8, pl_8, pv_12, pi_9, pl_9, pv_13, pi_10, pl_10, pv_14, pi_11, pl_11, pv_15, pv_20, wi_0, wi_1, wl_1, wv_14, wi_2, wl_2, wv_15, wi_3, wl_3, wv_16, wi_4, wl_4, wv_17, wi_5, wl_5, wv_18, wv_21, pt_P, pt_v, pt_w, pt_SI, pt_SL, kM_SI, kM_SL, lI_SL, lV_SL, lK_SL, lN_SL, lL_SL, lIs_SL, nI_SI, nV_SI, nK_SI, nN_SI, nL_SI, nIs_SI, pp_c, pp_l, pp_r, pp_k, pp_k0, pp_j, pp_j0, isl]
theorem m_eat {d p i : Nat} {h : mH} {c : Int32} (hk : kM h) (hp : isP p) (hi : mI h p 16 = Int32.ofNat i) (hb : i < 402) : mCall (d + 2) 102 [.ref p, .int c] h = if mI h (p + 1) i = c then some (.inl (some (.int 1)), mSI h p 16 (Int32.ofNat (i + 1))) else some (.inl (some (.int 0)), mFl h p) := by
  have hj : mIn (Int32.ofNat i) 402 = true := i_in (by rw [i_of_i (by omega)]; omega) (by rw [i_of_i (by omega)]; omega)
  have z0 : (0 : Int32) = 0 ∨ (0 : Int32) = 1 := Or.inl rfl
  have z1 : (1 : Int32) = 0 ∨ (1 : Int32) = 1 := Or.inr rfl
  have en : (Int32.ofNat i).toNatClampNeg = i := i_of_n (by omega)
  have ef := m_fail (d := d) hk hp hi hb
  by_cases c1 : mI h (p + 1) i = c
  · rw [if_pos c1]
    have c1' := eq_true c1
    simp (maxDischargeDepth := 60) only [hk, x_102_0, x_102_1, x_102_4, x_102_5, x_102_8, x_102_9, x_102_10, x_102_13, x_102_14, x_102_17, x_102_18, x_102_19, x_102_19i, x_102_20, x_102_23, x_102_24, x_102_25, x_102_28, x_102_29, c_102, hp, hi, hj, z1, en, c1', i_succ, Option.bind_some, mAft_n, mAft_v, mAft_x, mS_n, mS_i, mS_r, mS_l, mS_d, ne_eq, not_false_eq_true, not_true_eq_false, true_or, or_true, and_true, true_and, if_true, if_false, ite_true, ite_false, reduceIte, Nat.reduceAdd, Nat.reduceLeDiff, Nat.reduceEqDiff, false_and, and_false, or_false, false_or, eq_self, reduceCtorEq, mi_316, mi_317, ml_317, mi_318, ml_318, mi_319, ml_319, mi_320, ml_320, mi_321, ml_321, mi_322, ml_322, mi_359, ml_359, mv_316_1, mv_316_4, mv_316_7, mv_316_8, mv_316_9, mv_316_10, mv_316_13, mv_316_14, mv_316_15, pi_0, pi_1, pl_1, pv_1, pi_2, pl_2, pv_2, pi_3, pl_3, pv_3, pi_4, pl_4, pv_4, pi_5, pl_5, pv_5, pi_6, pl_6, pv_10, pi_7, pl_7, pv_11, pi_8, pl_8, pv_12, pi_9, pl_9, pv_13, pi_10, pl_10, pv_14, pi_11, pl_11, pv_15, pv_20, wi_0, wi_1, wl_1, wv_14, wi_2, wl_2, wv_15, wi_3, wl_3, wv_16, wi_4, wl_4, wv_17, wi_5, wl_5, wv_18, wv_21, pt_P, pt_v, pt_w, pt_SI, pt_SL, kM_SI, kM_SL, lI_SL, lV_SL, lK_SL, lN_SL, lL_SL, lIs_SL, nI_SI, nV_SI, nK_SI, nN_SI, nL_SI, nIs_SI, pp_c, pp_l, pp_r, pp_k, pp_k0, pp_j, pp_j0, isl]
  · rw [if_neg c1]
    simp (maxDischargeDepth := 60) only [hk, x_102_0, x_102_1, x_102_4, x_102_5, x_102_8, x_102_9, x_102_10, x_102_13, x_102_14, x_102_17, x_102_18, x_102_19, x_102_19i, x_102_20, x_102_23, x_102_24, x_102_25, x_102_28, x_102_29, c_102, hp, hi, hj, z0, en, c1, ef, Option.bind_some, mAft_n, mAft_v, mAft_x, mS_n, mS_i, mS_r, mS_l, mS_d, ne_eq, not_false_eq_true, not_true_eq_false, true_or, or_true, and_true, true_and, if_true, if_false, ite_true, ite_false, reduceIte, Nat.reduceAdd, Nat.reduceLeDiff, Nat.reduceEqDiff, false_and, and_false, or_false, false_or, eq_self, reduceCtorEq, mi_316, mi_317, ml_317, mi_318, ml_318, mi_319, ml_319, mi_320, ml_320, mi_321, ml_321, mi_322, ml_322, mi_359, ml_359, mv_316_1, mv_316_4, mv_316_7, mv_316_8, mv_316_9, mv_316_10, mv_316_13, mv_316_14, mv_316_15, pi_0, pi_1, pl_1, pv_1, pi_2, pl_2, pv_2, pi_3, pl_3, pv_3, pi_4, pl_4, pv_4, pi_5, pl_5, pv_5, pi_6, pl_6, pv_10, pi_7, pl_7, pv_11, pi_8, pl_8, pv_12, pi_9, pl_9, pv_13, pi_10, pl_10, pv_14, pi_11, pl_11, pv_15, pv_20, wi_0, wi_1, wl_1, wv_14, wi_2, wl_2, wv_15, wi_3, wl_3, wv_16, wi_4, wl_4, wv_17, wi_5, wl_5, wv_18, wv_21, pt_P, pt_v, pt_w, pt_SI, pt_SL, kM_SI, kM_SL, lI_SL, lV_SL, lK_SL, lN_SL, lL_SL, lIs_SL, nI_SI, nV_SI, nK_SI, nN_SI, nL_SI, nIs_SI, pp_c, pp_l, pp_r, pp_k, pp_k0, pp_j, pp_j0, isl]
theorem m_deepen {d p i dp : Nat} {h : mH} (hk : kM h) (hp : isP p) (hi : mI h p 16 = Int32.ofNat i) (hb : i < 402) (hd : mI h p 17 = Int32.ofNat dp) (hdb : dp ≤ 8) : mCall (d + 2) 111 [.ref p] h = if dp = 8 then some (.inl (some (.int 0)), mFl h p) else some (.inl (some (.int 1)), mSI (mSI h p 17 (Int32.ofNat (dp + 1))) p 16 (Int32.ofNat (i + 1))) := by
  have z0 : (0 : Int32) = 0 ∨ (0 : Int32) = 1 := Or.inl rfl
  have z1 : (1 : Int32) = 0 ∨ (1 : Int32) = 1 := Or.inr rfl
  have cy : (Int32.ofNat dp = 8) = (dp = 8) := by rw [show (8 : Int32) = Int32.ofNat 8 from rfl, i_ofeq (by omega) (by omega)]
  have ef := m_fail (d := d) hk hp hi hb
  have n67 : ¬ (16 : Nat) = 17 := by decide
  by_cases c1 : dp = 8
  · rw [if_pos c1]
    have c1' := eq_true c1
    simp (maxDischargeDepth := 60) only [hk, x_111_0, x_111_1, x_111_4, x_111_6, x_111_9, x_111_10, x_111_13, x_111_14, x_111_15, x_111_15i, x_111_16, x_111_19, x_111_20, x_111_21, x_111_24, x_111_25, x_111_25i, x_111_26, x_111_29, x_111_30, x_111_31, x_111_34, x_111_35, c_111, hp, hi, hd, z0, cy, c1', ef, Option.bind_some, mAft_n, mAft_v, mAft_x, mS_n, mS_i, mS_r, mS_l, mS_d, ne_eq, not_false_eq_true, not_true_eq_false, true_or, or_true, and_true, true_and, if_true, if_false, ite_true, ite_false, reduceIte, Nat.reduceAdd, Nat.reduceLeDiff, Nat.reduceEqDiff, false_and, and_false, or_false, false_or, eq_self, reduceCtorEq, mi_316, mi_317, ml_317, mi_318, ml_318, mi_319, ml_319, mi_320, ml_320, mi_321, ml_321, mi_322, ml_322, mi_359, ml_359, mv_316_1, mv_316_4, mv_316_7, mv_316_8, mv_316_9, mv_316_10, mv_316_13, mv_316_14, mv_316_15, pi_0, pi_1, pl_1, pv_1, pi_2, pl_2, pv_2, pi_3, pl_3, pv_3, pi_4, pl_4, pv_4, pi_5, pl_5, pv_5, pi_6, pl_6, pv_10, pi_7, pl_7, pv_11, pi_8, pl_8, pv_12, pi_9, pl_9, pv_13, pi_10, pl_10, pv_14, pi_11, pl_11, pv_15, pv_20, wi_0, wi_1, wl_1, wv_14, wi_2, wl_2, wv_15, wi_3, wl_3, wv_16, wi_4, wl_4, wv_17, wi_5, wl_5, wv_18, wv_21, pt_P, pt_v, pt_w, pt_SI, pt_SL, kM_SI, kM_SL, lI_SL, lV_SL, lK_SL, lN_SL, lL_SL, lIs_SL, nI_SI, nV_SI, nK_SI, nN_SI, nL_SI, nIs_SI, pp_c, pp_l, pp_r, pp_k, pp_k0, pp_j, pp_j0, isl]
  · rw [if_neg c1]
    simp (maxDischargeDepth := 60) only [hk, x_111_0, x_111_1, x_111_4, x_111_6, x_111_9, x_111_10, x_111_13, x_111_14, x_111_15, x_111_15i, x_111_16, x_111_19, x_111_20, x_111_21, x_111_24, x_111_25, x_111_25i, x_111_26, x_111_29, x_111_30, x_111_31, x_111_34, x_111_35, c_111, hp, hi, hd, z1, cy, c1, i_succ, Option.bind_some, mAft_n, mAft_v, mAft_x, mS_n, mS_i, mS_r, mS_l, mS_d, ne_eq, not_false_eq_true, not_true_eq_false, true_or, or_true, and_true, true_and, if_true, if_false, ite_true, ite_false, reduceIte, Nat.reduceAdd, Nat.reduceLeDiff, Nat.reduceEqDiff, false_and, and_false, or_false, false_or, eq_self, reduceCtorEq, mi_316, mi_317, ml_317, mi_318, ml_318, mi_319, ml_319, mi_320, ml_320, mi_321, ml_321, mi_322, ml_322, mi_359, ml_359, mv_316_1, mv_316_4, mv_316_7, mv_316_8, mv_316_9, mv_316_10, mv_316_13, mv_316_14, mv_316_15, pi_0, pi_1, pl_1, pv_1, pi_2, pl_2, pv_2, pi_3, pl_3, pv_3, pi_4, pl_4, pv_4, pi_5, pl_5, pv_5, pi_6, pl_6, pv_10, pi_7, pl_7, pv_11, pi_8, pl_8, pv_12, pi_9, pl_9, pv_13, pi_10, pl_10, pv_14, pi_11, pl_11, pv_15, pv_20, wi_0, wi_1, wl_1, wv_14, wi_2, wl_2, wv_15, wi_3, wl_3, wv_16, wi_4, wl_4, wv_17, wi_5, wl_5, wv_18, wv_21, pt_P, pt_v, pt_w, pt_SI, pt_SL, kM_SI, kM_SL, lI_SL, lV_SL, lK_SL, lN_SL, lL_SL, lIs_SL, nI_SI, nV_SI, nK_SI, nN_SI, nL_SI, nIs_SI, pp_c, pp_l, pp_r, pp_k, pp_k0, pp_j, pp_j0, isl]
theorem m_rise {d p dp : Nat} {h : mH} (hk : kM h) (hp : isP p) (hd : mI h p 17 = Int32.ofNat (dp + 1)) (hdb : dp ≤ 8) : mCall (d + 1) 112 [.ref p] h = some (.inl (some (.int 1)), mSI h p 17 (Int32.ofNat dp)) := by
  have z1 : (1 : Int32) = 0 ∨ (1 : Int32) = 1 := Or.inr rfl
  have e : Int32.ofNat (dp + 1) - 1 = Int32.ofNat dp := by rw [show (1 : Int32) = Int32.ofNat 1 from rfl, i_subof (by omega)]; rfl
  simp (maxDischargeDepth := 60) only [hk, x_112_0, x_112_1, x_112_1i, x_112_2, x_112_5, x_112_6, x_112_7, x_112_10, x_112_11, c_112, hp, hd, z1, e, Option.bind_some, mAft_n, mAft_v, mAft_x, mS_n, mS_i, mS_r, mS_l, mS_d, ne_eq, not_false_eq_true, not_true_eq_false, true_or, or_true, and_true, true_and, if_true, if_false, ite_true, ite_false, reduceIte, Nat.reduceAdd, Nat.reduceLeDiff, Nat.reduceEqDiff, false_and, and_false, or_false, false_or, eq_self, reduceCtorEq, mi_316, mi_317, ml_317, mi_318, ml_318, mi_319, ml_319, mi_320, ml_320, mi_321, ml_321, mi_322, ml_322, mi_359, ml_359, mv_316_1, mv_316_4, mv_316_7, mv_316_8, mv_316_9, mv_316_10, mv_316_13, mv_316_14, mv_316_15, pi_0, pi_1, pl_1, pv_1, pi_2, pl_2, pv_2, pi_3, pl_3, pv_3, pi_4, pl_4, pv_4, pi_5, pl_5, pv_5, pi_6, pl_6, pv_10, pi_7, pl_7, pv_11, pi_8, pl_8, pv_12, pi_9, pl_9, pv_13, pi_10, pl_10, pv_14, pi_11, pl_11, pv_15, pv_20, wi_0, wi_1, wl_1, wv_14, wi_2, wl_2, wv_15, wi_3, wl_3, wv_16, wi_4, wl_4, wv_17, wi_5, wl_5, wv_18, wv_21, pt_P, pt_v, pt_w, pt_SI, pt_SL, kM_SI, kM_SL, lI_SL, lV_SL, lK_SL, lN_SL, lL_SL, lIs_SL, nI_SI, nV_SI, nK_SI, nN_SI, nL_SI, nIs_SI, pp_c, pp_l, pp_r, pp_k, pp_k0, pp_j, pp_j0, isl]
/-- an error of the token ahead -/
def mMn (h : mH) (p : Nat) (i : Nat) (b : Bool) (n : Int32) : mH := if b = true ∧ mI h p 18 = 0 then mSI (mSI h p 18 n) p 19 (mI h (p + 3) (i - 1)) else h
theorem m_mean {d p i : Nat} {h : mH} {b : Bool} {n : Int32} (hk : kM h) (hp : isP p) (hi : mI h p 16 = Int32.ofNat i) (hb : i < 402) (h1 : 1 ≤ i) : mCall (d + 1) 104 [.ref p, .int (bz b), .int n] h = some (.inl none, mMn h p i b n) := by
  have e : Int32.ofNat i - 1 = Int32.ofNat (i - 1) := by rw [show (1 : Int32) = Int32.ofNat 1 from rfl, i_subof (by omega)]
  have hj : mIn (Int32.ofNat (i - 1)) 402 = true := i_in (by rw [i_of_i (by omega)]; omega) (by rw [i_of_i (by omega)]; omega)
  have en : (Int32.ofNat (i - 1)).toNatClampNeg = i - 1 := i_of_n (by omega)
  unfold mMn
  cases b
  · rw [if_neg (fun z => by cases z.1)]
    simp (maxDischargeDepth := 60) only [hk, x_104_0, x_104_1, x_104_4, x_104_5, x_104_8, x_104_11, x_104_12, x_104_13, x_104_14, x_104_17, x_104_18, x_104_19, x_104_22, x_104_23, x_104_26, x_104_27, x_104_28, x_104_29, x_104_32, c_104, hp, bz_0, Option.bind_some, mAft_n, mAft_v, mAft_x, mS_n, mS_i, mS_r, mS_l, mS_d, ne_eq, not_false_eq_true, not_true_eq_false, true_or, or_true, and_true, true_and, if_true, if_false, ite_true, ite_false, reduceIte, Nat.reduceAdd, Nat.reduceLeDiff, Nat.reduceEqDiff, false_and, and_false, or_false, false_or, eq_self, reduceCtorEq, mi_316, mi_317, ml_317, mi_318, ml_318, mi_319, ml_319, mi_320, ml_320, mi_321, ml_321, mi_322, ml_322, mi_359, ml_359, mv_316_1, mv_316_4, mv_316_7, mv_316_8, mv_316_9, mv_316_10, mv_316_13, mv_316_14, mv_316_15, pi_0, pi_1, pl_1, pv_1, pi_2, pl_2, pv_2, pi_3, pl_3, pv_3, pi_4, pl_4, pv_4, pi_5, pl_5, pv_5, pi_6, pl_6, pv_10, pi_7, pl_7, pv_11, pi_8, pl_8, pv_12, pi_9, pl_9, pv_13, pi_10, pl_10, pv_14, pi_11, pl_11, pv_15, pv_20, wi_0, wi_1, wl_1, wv_14, wi_2, wl_2, wv_15, wi_3, wl_3, wv_16, wi_4, wl_4, wv_17, wi_5, wl_5, wv_18, wv_21, pt_P, pt_v, pt_w, pt_SI, pt_SL, kM_SI, kM_SL, lI_SL, lV_SL, lK_SL, lN_SL, lL_SL, lIs_SL, nI_SI, nV_SI, nK_SI, nN_SI, nL_SI, nIs_SI, pp_c, pp_l, pp_r, pp_k, pp_k0, pp_j, pp_j0, isl]
  · by_cases c : mI h p 18 = 0
    · rw [if_pos ⟨rfl, c⟩]
      have c' := eq_true c
      simp (maxDischargeDepth := 60) only [hk, x_104_0, x_104_1, x_104_4, x_104_5, x_104_8, x_104_11, x_104_12, x_104_13, x_104_14, x_104_17, x_104_18, x_104_19, x_104_22, x_104_23, x_104_26, x_104_27, x_104_28, x_104_29, x_104_32, c_104, hp, bz_0, Bool.true_eq_false, c', hi, hj, e, en, Option.bind_some, mAft_n, mAft_v, mAft_x, mS_n, mS_i, mS_r, mS_l, mS_d, ne_eq, not_false_eq_true, not_true_eq_false, true_or, or_true, and_true, true_and, if_true, if_false, ite_true, ite_false, reduceIte, Nat.reduceAdd, Nat.reduceLeDiff, Nat.reduceEqDiff, false_and, and_false, or_false, false_or, eq_self, reduceCtorEq, mi_316, mi_317, ml_317, mi_318, ml_318, mi_319, ml_319, mi_320, ml_320, mi_321, ml_321, mi_322, ml_322, mi_359, ml_359, mv_316_1, mv_316_4, mv_316_7, mv_316_8, mv_316_9, mv_316_10, mv_316_13, mv_316_14, mv_316_15, pi_0, pi_1, pl_1, pv_1, pi_2, pl_2, pv_2, pi_3, pl_3, pv_3, pi_4, pl_4, pv_4, pi_5, pl_5, pv_5, pi_6, pl_6, pv_10, pi_7, pl_7, pv_11, pi_8, pl_8, pv_12, pi_9, pl_9, pv_13, pi_10, pl_10, pv_14, pi_11, pl_11, pv_15, pv_20, wi_0, wi_1, wl_1, wv_14, wi_2, wl_2, wv_15, wi_3, wl_3, wv_16, wi_4, wl_4, wv_17, wi_5, wl_5, wv_18, wv_21, pt_P, pt_v, pt_w, pt_SI, pt_SL, kM_SI, kM_SL, lI_SL, lV_SL, lK_SL, lN_SL, lL_SL, lIs_SL, nI_SI, nV_SI, nK_SI, nN_SI, nL_SI, nIs_SI, pp_c, pp_l, pp_r, pp_k, pp_k0, pp_j, pp_j0, isl]
    · rw [if_neg (fun z => c z.2)]
      simp (maxDischargeDepth := 60) only [hk, x_104_0, x_104_1, x_104_4, x_104_5, x_104_8, x_104_11, x_104_12, x_104_13, x_104_14, x_104_17, x_104_18, x_104_19, x_104_22, x_104_23, x_104_26, x_104_27, x_104_28, x_104_29, x_104_32, c_104, hp, bz_0, Bool.true_eq_false, c, Option.bind_some, mAft_n, mAft_v, mAft_x, mS_n, mS_i, mS_r, mS_l, mS_d, ne_eq, not_false_eq_true, not_true_eq_false, true_or, or_true, and_true, true_and, if_true, if_false, ite_true, ite_false, reduceIte, Nat.reduceAdd, Nat.reduceLeDiff, Nat.reduceEqDiff, false_and, and_false, or_false, false_or, eq_self, reduceCtorEq, mi_316, mi_317, ml_317, mi_318, ml_318, mi_319, ml_319, mi_320, ml_320, mi_321, ml_321, mi_322, ml_322, mi_359, ml_359, mv_316_1, mv_316_4, mv_316_7, mv_316_8, mv_316_9, mv_316_10, mv_316_13, mv_316_14, mv_316_15, pi_0, pi_1, pl_1, pv_1, pi_2, pl_2, pv_2, pi_3, pl_3, pv_3, pi_4, pl_4, pv_4, pi_5, pl_5, pv_5, pi_6, pl_6, pv_10, pi_7, pl_7, pv_11, pi_8, pl_8, pv_12, pi_9, pl_9, pv_13, pi_10, pl_10, pv_14, pi_11, pl_11, pv_15, pv_20, wi_0, wi_1, wl_1, wv_14, wi_2, wl_2, wv_15, wi_3, wl_3, wv_16, wi_4, wl_4, wv_17, wi_5, wl_5, wv_18, wv_21, pt_P, pt_v, pt_w, pt_SI, pt_SL, kM_SI, kM_SL, lI_SL, lV_SL, lK_SL, lN_SL, lL_SL, lIs_SL, nI_SI, nV_SI, nK_SI, nN_SI, nL_SI, nIs_SI, pp_c, pp_l, pp_r, pp_k, pp_k0, pp_j, pp_j0, isl]
/-- the place of a word among some -/
def fnL (f : Nat → Int64) (w : Int64) : Nat → Nat → Int32
  | 0, _ => -1
  | n + 1, k => if f k = w then Int32.ofNat k else fnL f w n (k + 1)
theorem lcmp_z {x y : Int64} : (lg_cmp x y = 0) = (x = y) := by
  unfold lg_cmp
  apply propext
  constructor
  · intro h
    by_cases c : x = y
    · exact c
    · exfalso
      revert h
      repeat' split
      all_goals first
        | decide
        | (intro h; simp_all)
  · intro h
    subst h
    repeat' split
    all_goals first
      | rfl
      | (exfalso; simp_all)
theorem m_find {d a n : Nat} {h : mH} {w : Int64} (hr : mIs h a 101 = true) (hn : n ≤ (mK h a).2) (hl : (mK h a).2 ≤ 1000) : mCall (d + 1) 103 [.ref a, .int (Int32.ofNat n), .long w] h = some (.inl (some (.int (fnL (mL h a) w n 0))), h) := by
  have lp : ∀ (m k : Nat), k + m = n → mExec (mCall d) 103 3 [some (.ref a), some (.int (Int32.ofNat n)), some (.long w), none, some (.int (Int32.ofNat k))] [] h = some (.inl (some (.int (fnL (mL h a) w m k))), h) := by
    intro m
    induction m with
    | zero =>
      intro k e
      have c1 : Int32.ofNat n ≤ Int32.ofNat k := by rw [i_ofle (by omega) (by omega)]; omega
      rw [x_103_3]
      simp (maxDischargeDepth := 60) only [c1, x_103_0, x_103_1, x_103_5, x_103_6, x_103_9, x_103_10, x_103_12, x_103_13, x_103_14, x_103_15, x_103_18, x_103_20, x_103_21, x_103_24, x_103_27, x_103_28, Option.bind_some, mAft_n, mAft_v, mAft_x, mS_n, mS_i, mS_r, mS_l, mS_d, ne_eq, not_false_eq_true, not_true_eq_false, true_or, or_true, and_true, true_and, if_true, if_false, ite_true, ite_false, reduceIte, Nat.reduceAdd, Nat.reduceLeDiff, Nat.reduceEqDiff, false_and, and_false, or_false, false_or, eq_self, reduceCtorEq]
      rfl
    | succ m ih =>
      intro k e
      have c1 : ¬ Int32.ofNat n ≤ Int32.ofNat k := by rw [i_ofle (by omega) (by omega)]; omega
      have hj : mIn (Int32.ofNat k) (mK h a).2 = true := i_in (by rw [i_of_i (by omega)]; omega) (by rw [i_of_i (by omega)]; omega)
      have en : (Int32.ofNat k).toNatClampNeg = k := i_of_n (by omega)
      rw [x_103_3, fnL]
      by_cases c2 : mL h a k = w
      · rw [if_pos c2]
        have c2' := eq_true c2
        simp (maxDischargeDepth := 60) only [c1, hr, hj, en, lcmp_z, c2', x_103_0, x_103_1, x_103_5, x_103_6, x_103_9, x_103_10, x_103_12, x_103_13, x_103_14, x_103_15, x_103_18, x_103_20, x_103_21, x_103_24, x_103_27, x_103_28, Option.bind_some, mAft_n, mAft_v, mAft_x, mS_n, mS_i, mS_r, mS_l, mS_d, ne_eq, not_false_eq_true, not_true_eq_false, true_or, or_true, and_true, true_and, if_true, if_false, ite_true, ite_false, reduceIte, Nat.reduceAdd, Nat.reduceLeDiff, Nat.reduceEqDiff, false_and, and_false, or_false, false_or, eq_self, reduceCtorEq]
      · rw [if_neg c2, ← ih (k + 1) (by omega)]
        simp (maxDischargeDepth := 60) only [c1, hr, hj, en, lcmp_z, c2, i_succ, x_103_0, x_103_1, x_103_5, x_103_6, x_103_9, x_103_10, x_103_12, x_103_13, x_103_14, x_103_15, x_103_18, x_103_20, x_103_21, x_103_24, x_103_27, x_103_28, Option.bind_some, mAft_n, mAft_v, mAft_x, mS_n, mS_i, mS_r, mS_l, mS_d, ne_eq, not_false_eq_true, not_true_eq_false, true_or, or_true, and_true, true_and, if_true, if_false, ite_true, ite_false, reduceIte, Nat.reduceAdd, Nat.reduceLeDiff, Nat.reduceEqDiff, false_and, and_false, or_false, false_or, eq_self, reduceCtorEq]
  have := lp n 0 (by omega)
  simp only [c_103, x_103_0, x_103_1]
  exact this
