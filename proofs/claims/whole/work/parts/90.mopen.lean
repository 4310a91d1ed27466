/-! THE REFERENCE'S CLOSINGS -/
def clR (cl : List CL) (r : Nat) : List CL := cl.filter (fun q => decide (q.1 = Int32.ofNat r))
def cl12 (cl : List CL) : Prop := ∀ q, q ∈ cl → ∃ r : Nat, r < 12 ∧ q.1 = Int32.ofNat r
def shutN (s : Int32) (q : CL) : Bool := !(decide (q.2.1 ≤ s) && decide (s < q.2.2))
def mClo (h : mH) (cl : List CL) : Prop := ∀ r, r < 12 → (clR cl r).length ≤ 4 ∧ mI h 320 r = Int32.ofNat (clR cl r).length ∧ ∀ k, k < (clR cl r).length → mI h 321 (8 * r + 2 * k) = ((clR cl r).getD k (0, 0, 0)).2.1 ∧ mI h 321 (8 * r + 2 * k + 1) = ((clR cl r).getD k (0, 0, 0)).2.2
theorem clR_cnt {cl : List CL} {r : Nat} : (clR cl r).length = cCnt cl (Int32.ofNat r) := by
  unfold clR cCnt
  rw [List.countP_eq_length_filter]
theorem clR_all {s : Int32} {r : Nat} : ∀ (cl : List CL), (clR cl r).all (shutN s) = cl.all (fun x => !(decide (x.1 = Int32.ofNat r) && decide (x.2.1 ≤ s) && decide (s < x.2.2)))
  | [] => rfl
  | q :: cl => by
    have ih := clR_all (s := s) (r := r) cl
    unfold clR at ih ⊢
    rw [List.filter_cons]
    by_cases c : q.1 = Int32.ofNat r
    · rw [if_pos (decide_eq_true c), List.all_cons, List.all_cons, ih, decide_eq_true c, Bool.true_and]; rfl
    · rw [if_neg (by rw [decide_eq_false c]; decide), List.all_cons, ih, decide_eq_false c, Bool.false_and, Bool.false_and, Bool.not_false, Bool.true_and]
theorem op_bt {cl : List CL} {s : Int32} {r : Nat} (hr : r < 12) (h : cl12 cl) : bt (cOpen cl s) (Int32.ofNat r) = (clR cl r).all (shutN s) := by
  unfold cOpen
  rw [cOpen_bt hr cl 4095 h, bt_4095 hr, Bool.true_and, clR_all]
theorem bz_and {a : Bool} : bz a &&& 1 = bz a ∧ bz a &&& 0 = 0 := by cases a <;> decide
theorem m_op_l {d r : Nat} {s : Int32} {cl : List CL} {h : mH} (hk : kM h) (hr : r < 12) (m : mClo h cl) : ∀ (n k : Nat) (a : Bool), k + n = (clR cl r).length →
    mExec (mCall d) 156 8 [some (.ref 316), some (.int (Int32.ofNat r)), some (.int s), some (.int (bz a)), some (.int (Int32.ofNat (8 * r + 2 * k)))] [] h = some (.inl (some (.int (bz (a && ((clR cl r).drop k).all (shutN s))))), h) := by
  obtain ⟨m1, m2, m3⟩ := m r hr
  generalize clR cl r = l at *
  have hj : mIn (Int32.ofNat r) 12 = true := i_in (by rw [i_of_i (by omega)]; omega) (by rw [i_of_i (by omega)]; omega)
  have en : (Int32.ofNat r).toNatClampNeg = r := i_of_n (by omega)
  have e8 : (8 : Int32) * Int32.ofNat r = Int32.ofNat (8 * r) := by rw [show (8 : Int32) = Int32.ofNat 8 from rfl, i_mulof]
  have e2 : (2 : Int32) * Int32.ofNat l.length = Int32.ofNat (2 * l.length) := by rw [show (2 : Int32) = Int32.ofNat 2 from rfl, i_mulof]
  have b0 : ∀ b, bz b = 0 ∨ bz b = 1 := fun _ => bz_1
  intro n
  induction n with
  | zero =>
    intro k a e
    have c1 : Int32.ofNat (8 * r + 2 * l.length) ≤ Int32.ofNat (8 * r + 2 * k) := by rw [i_ofle (by omega) (by omega)]; omega
    rw [List.drop_eq_nil_of_le (by omega), List.all_nil, Bool.and_true, x_156_8]
    simp (maxDischargeDepth := 60) only [hk, x_156_0, x_156_1, x_156_2, x_156_4, x_156_5, x_156_6, x_156_10, x_156_12, x_156_13, x_156_14, x_156_15, x_156_16, x_156_19, x_156_20, x_156_21, x_156_22, x_156_23, x_156_26, x_156_27, x_156_28, x_156_29, x_156_32, x_156_34, x_156_35, x_156_38, x_156_39, x_156_40, x_156_43, x_156_45, x_156_46, x_156_47, x_156_48, x_156_51, x_156_52, x_156_55, x_156_56, x_156_57, x_156_58, x_156_61, x_156_64, x_156_65, m2, hj, en, e8, e2, i_addof, c1, b0, Option.bind_some, mAft_n, mAft_v, mAft_x, mS_n, mS_i, mS_r, mS_l, mS_d, ne_eq, not_false_eq_true, not_true_eq_false, true_or, or_true, and_true, true_and, if_true, if_false, ite_true, ite_false, reduceIte, Nat.reduceAdd, Nat.reduceLeDiff, Nat.reduceEqDiff, false_and, and_false, or_false, false_or, eq_self, reduceCtorEq, mi_316, mi_317, ml_317, mi_318, ml_318, mi_319, ml_319, mi_320, ml_320, mi_321, ml_321, mi_322, ml_322, mi_359, ml_359, mv_316_1, mv_316_4, mv_316_7, mv_316_8, mv_316_9, mv_316_10, mv_316_13, mv_316_14, mv_316_15, pi_0, pi_1, pl_1, pv_1, pi_2, pl_2, pv_2, pi_3, pl_3, pv_3, pi_4, pl_4, pv_4, pi_5, pl_5, pv_5, pi_6, pl_6, pv_10, pi_7, pl_7, pv_11, pi_8, pl_8, pv_12, pi_9, pl_9, pv_13, pi_10, pl_10, pv_14, pi_11, pl_11, pv_15, pv_20, wi_0, wi_1, wl_1, wv_14, wi_2, wl_2, wv_15, wi_3, wl_3, wv_16, wi_4, wl_4, wv_17, wi_5, wl_5, wv_18, wv_21, pt_P, pt_v, pt_w, pt_SI, pt_SL, kM_SI, kM_SL, lI_SL, lV_SL, lK_SL, lN_SL, lL_SL, lIs_SL, nI_SI, nV_SI, nK_SI, nN_SI, nL_SI, nIs_SI, pp_c, pp_l, pp_r, pp_k, pp_k0, pp_j, pp_j0, isl]
  | succ n ih =>
    intro k a e
    have c1 : ¬ Int32.ofNat (8 * r + 2 * l.length) ≤ Int32.ofNat (8 * r + 2 * k) := by rw [i_ofle (by omega) (by omega)]; omega
    have hk1 : mIn (Int32.ofNat (8 * r + 2 * k)) 96 = true := i_in (by rw [i_of_i (by omega)]; omega) (by rw [i_of_i (by omega)]; omega)
    have ek1 : (Int32.ofNat (8 * r + 2 * k)).toNatClampNeg = 8 * r + 2 * k := i_of_n (by omega)
    have hk2 : mIn (Int32.ofNat (8 * r + 2 * k + 1)) 96 = true := i_in (by rw [i_of_i (by omega)]; omega) (by rw [i_of_i (by omega)]; omega)
    have ek2 : (Int32.ofNat (8 * r + 2 * k + 1)).toNatClampNeg = 8 * r + 2 * k + 1 := i_of_n (by omega)
    have i2 : Int32.ofNat (8 * r + 2 * k) + 2 = Int32.ofNat (8 * r + 2 * (k + 1)) := by rw [show (2 : Int32) = Int32.ofNat 2 from rfl, i_addof]; rfl
    obtain ⟨q1, q2⟩ := m3 k (by omega)
    have ed : l.drop k = l.getD k (0, 0, 0) :: l.drop (k + 1) := by
      rw [List.drop_eq_getElem_cons (by omega), List.getD_eq_getElem?_getD, List.getElem?_eq_getElem (by omega)]; rfl
    rw [ed, List.all_cons, x_156_8, ← Bool.and_assoc, ← ih (k + 1) _ (by omega)]
    generalize l.getD k (0, 0, 0) = q at *
    unfold shutN
    have y1 := bz_and (a := a)
    by_cases z1 : s < q.2.1
    · have z1' := eq_true z1
      have w : ¬ q.2.1 ≤ s := by rw [i_lt] at z1; rw [i_le]; omega
      have es : (a && !(decide (q.2.1 ≤ s) && decide (s < q.2.2))) = a := by rw [decide_eq_false w, Bool.false_and, Bool.not_false, Bool.and_true]
      rw [es]
      simp (maxDischargeDepth := 60) only [hk, x_156_0, x_156_1, x_156_2, x_156_4, x_156_5, x_156_6, x_156_10, x_156_12, x_156_13, x_156_14, x_156_15, x_156_16, x_156_19, x_156_20, x_156_21, x_156_22, x_156_23, x_156_26, x_156_27, x_156_28, x_156_29, x_156_32, x_156_34, x_156_35, x_156_38, x_156_39, x_156_40, x_156_43, x_156_45, x_156_46, x_156_47, x_156_48, x_156_51, x_156_52, x_156_55, x_156_56, x_156_57, x_156_58, x_156_61, x_156_64, x_156_65, m2, hj, en, e8, e2, i_addof, c1, b0, hk1, ek1, hk2, ek2, i2, q1, q2, z1', y1.1, Option.bind_some, mAft_n, mAft_v, mAft_x, mS_n, mS_i, mS_r, mS_l, mS_d, ne_eq, not_false_eq_true, not_true_eq_false, true_or, or_true, and_true, true_and, if_true, if_false, ite_true, ite_false, reduceIte, Nat.reduceAdd, Nat.reduceLeDiff, Nat.reduceEqDiff, false_and, and_false, or_false, false_or, eq_self, reduceCtorEq, mi_316, mi_317, ml_317, mi_318, ml_318, mi_319, ml_319, mi_320, ml_320, mi_321, ml_321, mi_322, ml_322, mi_359, ml_359, mv_316_1, mv_316_4, mv_316_7, mv_316_8, mv_316_9, mv_316_10, mv_316_13, mv_316_14, mv_316_15, pi_0, pi_1, pl_1, pv_1, pi_2, pl_2, pv_2, pi_3, pl_3, pv_3, pi_4, pl_4, pv_4, pi_5, pl_5, pv_5, pi_6, pl_6, pv_10, pi_7, pl_7, pv_11, pi_8, pl_8, pv_12, pi_9, pl_9, pv_13, pi_10, pl_10, pv_14, pi_11, pl_11, pv_15, pv_20, wi_0, wi_1, wl_1, wv_14, wi_2, wl_2, wv_15, wi_3, wl_3, wv_16, wi_4, wl_4, wv_17, wi_5, wl_5, wv_18, wv_21, pt_P, pt_v, pt_w, pt_SI, pt_SL, kM_SI, kM_SL, lI_SL, lV_SL, lK_SL, lN_SL, lL_SL, lIs_SL, nI_SI, nV_SI, nK_SI, nN_SI, nL_SI, nIs_SI, pp_c, pp_l, pp_r, pp_k, pp_k0, pp_j, pp_j0, isl]
    · have w : q.2.1 ≤ s := by rw [i_lt] at z1; rw [i_le]; omega
      by_cases z2 : s < q.2.2
      · have z2' := eq_true z2
        have es : (a && !(decide (q.2.1 ≤ s) && decide (s < q.2.2))) = false := by rw [decide_eq_true w, decide_eq_true z2]; cases a <;> rfl
        rw [es]
        simp (maxDischargeDepth := 60) only [hk, x_156_0, x_156_1, x_156_2, x_156_4, x_156_5, x_156_6, x_156_10, x_156_12, x_156_13, x_156_14, x_156_15, x_156_16, x_156_19, x_156_20, x_156_21, x_156_22, x_156_23, x_156_26, x_156_27, x_156_28, x_156_29, x_156_32, x_156_34, x_156_35, x_156_38, x_156_39, x_156_40, x_156_43, x_156_45, x_156_46, x_156_47, x_156_48, x_156_51, x_156_52, x_156_55, x_156_56, x_156_57, x_156_58, x_156_61, x_156_64, x_156_65, m2, hj, en, e8, e2, i_addof, c1, b0, hk1, ek1, hk2, ek2, i_succ, i2, q1, q2, z1, z2', y1.2, Option.bind_some, mAft_n, mAft_v, mAft_x, mS_n, mS_i, mS_r, mS_l, mS_d, ne_eq, not_false_eq_true, not_true_eq_false, true_or, or_true, and_true, true_and, if_true, if_false, ite_true, ite_false, reduceIte, Nat.reduceAdd, Nat.reduceLeDiff, Nat.reduceEqDiff, false_and, and_false, or_false, false_or, eq_self, reduceCtorEq, mi_316, mi_317, ml_317, mi_318, ml_318, mi_319, ml_319, mi_320, ml_320, mi_321, ml_321, mi_322, ml_322, mi_359, ml_359, mv_316_1, mv_316_4, mv_316_7, mv_316_8, mv_316_9, mv_316_10, mv_316_13, mv_316_14, mv_316_15, pi_0, pi_1, pl_1, pv_1, pi_2, pl_2, pv_2, pi_3, pl_3, pv_3, pi_4, pl_4, pv_4, pi_5, pl_5, pv_5, pi_6, pl_6, pv_10, pi_7, pl_7, pv_11, pi_8, pl_8, pv_12, pi_9, pl_9, pv_13, pi_10, pl_10, pv_14, pi_11, pl_11, pv_15, pv_20, wi_0, wi_1, wl_1, wv_14, wi_2, wl_2, wv_15, wi_3, wl_3, wv_16, wi_4, wl_4, wv_17, wi_5, wl_5, wv_18, wv_21, pt_P, pt_v, pt_w, pt_SI, pt_SL, kM_SI, kM_SL, lI_SL, lV_SL, lK_SL, lN_SL, lL_SL, lIs_SL, nI_SI, nV_SI, nK_SI, nN_SI, nL_SI, nIs_SI, pp_c, pp_l, pp_r, pp_k, pp_k0, pp_j, pp_j0, isl]
        rfl
      · have es : (a && !(decide (q.2.1 ≤ s) && decide (s < q.2.2))) = a := by rw [decide_eq_false z2, Bool.and_false, Bool.not_false, Bool.and_true]
        rw [es]
        simp (maxDischargeDepth := 60) only [hk, x_156_0, x_156_1, x_156_2, x_156_4, x_156_5, x_156_6, x_156_10, x_156_12, x_156_13, x_156_14, x_156_15, x_156_16, x_156_19, x_156_20, x_156_21, x_156_22, x_156_23, x_156_26, x_156_27, x_156_28, x_156_29, x_156_32, x_156_34, x_156_35, x_156_38, x_156_39, x_156_40, x_156_43, x_156_45, x_156_46, x_156_47, x_156_48, x_156_51, x_156_52, x_156_55, x_156_56, x_156_57, x_156_58, x_156_61, x_156_64, x_156_65, m2, hj, en, e8, e2, i_addof, c1, b0, hk1, ek1, hk2, ek2, i_succ, i2, q1, q2, z1, z2, y1.1, Option.bind_some, mAft_n, mAft_v, mAft_x, mS_n, mS_i, mS_r, mS_l, mS_d, ne_eq, not_false_eq_true, not_true_eq_false, true_or, or_true, and_true, true_and, if_true, if_false, ite_true, ite_false, reduceIte, Nat.reduceAdd, Nat.reduceLeDiff, Nat.reduceEqDiff, false_and, and_false, or_false, false_or, eq_self, reduceCtorEq, mi_316, mi_317, ml_317, mi_318, ml_318, mi_319, ml_319, mi_320, ml_320, mi_321, ml_321, mi_322, ml_322, mi_359, ml_359, mv_316_1, mv_316_4, mv_316_7, mv_316_8, mv_316_9, mv_316_10, mv_316_13, mv_316_14, mv_316_15, pi_0, pi_1, pl_1, pv_1, pi_2, pl_2, pv_2, pi_3, pl_3, pv_3, pi_4, pl_4, pv_4, pi_5, pl_5, pv_5, pi_6, pl_6, pv_10, pi_7, pl_7, pv_11, pi_8, pl_8, pv_12, pi_9, pl_9, pv_13, pi_10, pl_10, pv_14, pi_11, pl_11, pv_15, pv_20, wi_0, wi_1, wl_1, wv_14, wi_2, wl_2, wv_15, wi_3, wl_3, wv_16, wi_4, wl_4, wv_17, wi_5, wl_5, wv_18, wv_21, pt_P, pt_v, pt_w, pt_SI, pt_SL, kM_SI, kM_SL, lI_SL, lV_SL, lK_SL, lN_SL, lL_SL, lIs_SL, nI_SI, nV_SI, nK_SI, nN_SI, nL_SI, nIs_SI, pp_c, pp_l, pp_r, pp_k, pp_k0, pp_j, pp_j0, isl]
theorem m_isOpenAt {d r : Nat} {s : Int32} {cl : List CL} {h : mH} (hk : kM h) (hr : r < 12) (m : mClo h cl) (h12 : cl12 cl) : mCall (d + 1) 156 [.ref 316, .int (Int32.ofNat r), .int s] h = some (.inl (some (.int (bz (bt (cOpen cl s) (Int32.ofNat r))))), h) := by
  have e8 : (8 : Int32) * Int32.ofNat r = Int32.ofNat (8 * r) := by rw [show (8 : Int32) = Int32.ofNat 8 from rfl, i_mulof]
  have lp := m_op_l (d := d) (s := s) hk hr m (clR cl r).length 0 true (by omega)
  rw [op_bt hr h12, ← Bool.true_and ((clR cl r).all (shutN s))]
  rw [List.drop_zero] at lp
  rw [← lp]
  simp (maxDischargeDepth := 60) only [hk, x_156_0, x_156_1, x_156_2, x_156_4, x_156_5, x_156_6, x_156_10, x_156_12, x_156_13, x_156_14, x_156_15, x_156_16, x_156_19, x_156_20, x_156_21, x_156_22, x_156_23, x_156_26, x_156_27, x_156_28, x_156_29, x_156_32, x_156_34, x_156_35, x_156_38, x_156_39, x_156_40, x_156_43, x_156_45, x_156_46, x_156_47, x_156_48, x_156_51, x_156_52, x_156_55, x_156_56, x_156_57, x_156_58, x_156_61, x_156_64, x_156_65, c_156, e8, Option.bind_some, mAft_n, mAft_v, mAft_x, mS_n, mS_i, mS_r, mS_l, mS_d, ne_eq, not_false_eq_true, not_true_eq_false, true_or, or_true, and_true, true_and, if_true, if_false, ite_true, ite_false, reduceIte, Nat.reduceAdd, Nat.reduceLeDiff, Nat.reduceEqDiff, false_and, and_false, or_false, false_or, eq_self, reduceCtorEq, mi_316, mi_317, ml_317, mi_318, ml_318, mi_319, ml_319, mi_320, ml_320, mi_321, ml_321, mi_322, ml_322, mi_359, ml_359, mv_316_1, mv_316_4, mv_316_7, mv_316_8, mv_316_9, mv_316_10, mv_316_13, mv_316_14, mv_316_15, pi_0, pi_1, pl_1, pv_1, pi_2, pl_2, pv_2, pi_3, pl_3, pv_3, pi_4, pl_4, pv_4, pi_5, pl_5, pv_5, pi_6, pl_6, pv_10, pi_7, pl_7, pv_11, pi_8, pl_8, pv_12, pi_9, pl_9, pv_13, pi_10, pl_10, pv_14, pi_11, pl_11, pv_15, pv_20, wi_0, wi_1, wl_1, wv_14, wi_2, wl_2, wv_15, wi_3, wl_3, wv_16, wi_4, wl_4, wv_17, wi_5, wl_5, wv_18, wv_21, pt_P, pt_v, pt_w, pt_SI, pt_SL, kM_SI, kM_SL, lI_SL, lV_SL, lK_SL, lN_SL, lL_SL, lIs_SL, nI_SI, nV_SI, nK_SI, nN_SI, nL_SI, nIs_SI, pp_c, pp_l, pp_r, pp_k, pp_k0, pp_j, pp_j0, isl]
  rfl
