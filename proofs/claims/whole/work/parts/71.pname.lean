/-! THE REFERENCE'S PARSER: A NEW NAME -/
def sNw (X : PX) (s : RS) (i : Nat) (x : Int32) (full : Bool) : RS := sMn X (sMn X s i (!decide (x = -1)) 2) i full 4
theorem q_new {D n t most : Nat} {R : Nat → Int64} {X : PX} {p i d : Nat} {s : RS} {h : mH} (m : pS h p X i d s) (ht : mIs h t 101 = true) (hn : n ≤ (mK h t).2) (hl : (mK h t).2 ≤ 1000) (hR : mL h t = R) (hmo : most ≤ 1000) (lim : Int32) (hlim : lim = Int32.ofNat most) :
    (X.1 i = 29 → ∃ H, mCall (D + 3) 105 [.ref p, .ref t, .int (Int32.ofNat n), .int lim] h = some (.inl (some (.int 1)), H) ∧ pS H p X (i + 1) d (sNw X s i (fnL R (X.2.2.2.1 i) n 0) (decide (n = most))) ∧ Fr [p, p + 2, p + 4] h H) ∧
    (¬ X.1 i = 29 → ∃ H, mCall (D + 3) 105 [.ref p, .ref t, .int (Int32.ofNat n), .int lim] h = some (.inl (some (.int 0)), H) ∧ kM H ∧ mI H p 18 = 1 ∧ mI H p 19 = X.2.2.1 i ∧ Fr [p, p + 2, p + 4] h H) := by
  subst hlim
  have eat := q_eat (D := D) m 29 (by decide) (show (200 : Int32) = kap 29 by decide)
  have z0 : (0 : Int32) = 0 ∨ (0 : Int32) = 1 := Or.inl rfl
  have z1 : (1 : Int32) = 0 ∨ (1 : Int32) = 1 := Or.inr rfl
  have n10 : ¬ (1 : Int32) = 0 := by decide
  have hk := m.1
  have hp := m.2.1
  constructor
  · intro c
    obtain ⟨H, a1, a2, a3⟩ := eat.1 c
    obtain ⟨k1, k2, k3, k4, k5, hkH, _⟩ := pS_k a2
    have e1 : Int32.ofNat (i + 1) - 1 = Int32.ofNat i := by rw [show (1 : Int32) = Int32.ofNat 1 from rfl, i_subof (by omega)]; rfl
    have hj : mIn (Int32.ofNat i) 402 = true := i_in (by rw [i_of_i (by omega)]; omega) (by rw [i_of_i (by omega)]; omega)
    have en : (Int32.ofNat i).toNatClampNeg = i := i_of_n (by omega)
    have ew : mL H (p + 5) = X.2.2.2.1 := a2.2.2.2.2.2.2.1
    have eLh : mL H = mL h := congrArg (fun q => q.1) a3.1
    have eLt : mL H t = R := by rw [eLh]; exact hR
    have eKt : mK H = mK h := Fr_K a3
    have ef := m_find (d := D + 1) (h := H) (a := t) (n := n) (w := X.2.2.2.1 i) (by rw [Fr_is a3]; exact ht) (by rw [eKt]; exact hn) (by rw [eKt]; exact hl)
    rw [eLt] at ef
    generalize hx : fnL R (X.2.2.2.1 i) n 0 = x at ef ⊢
    obtain ⟨H2, b1, b2, b3⟩ := q_mean (D := D + 1) (b := !decide (x = -1)) (n := 2) a2
    obtain ⟨H3, c1, c2, c3⟩ := q_mean (D := D + 1) (b := decide (n = most)) (n := 4) b2
    have hn1 : n ≤ 1000 := Nat.le_trans hn hl
    have eq : (Int32.ofNat n = Int32.ofNat most) = (n = most) := by
      apply propext
      constructor
      · intro z
        have := congrArg Int32.toNatClampNeg z
        rw [i_of_n (by omega), i_of_n (by omega)] at this
        exact this
      · intro z; rw [z]
    refine ⟨H3, ?_, c2, Fr_trans a3 (Fr_trans b3 c3)⟩
    by_cases cx : x = -1
    · have cx' := eq_true cx
      rw [decide_eq_true cx] at b1
      have b1' : mCall (D + 2) 104 [.ref p, .int 0, .int 2] H = some (.inl none, H2) := b1
      by_cases cn : n = most
      · rw [decide_eq_true cn] at c1
        have c1' : mCall (D + 2) 104 [.ref p, .int 1, .int 4] H2 = some (.inl none, H3) := c1
        have cn' := eq_true cn
        simp (maxDischargeDepth := 60) only [hk, x_105_0, x_105_1, x_105_4, x_105_7, x_105_10, x_105_11, x_105_12, x_105_13, x_105_14, x_105_15, x_105_16, x_105_19, x_105_20, x_105_23, x_105_24, x_105_25, x_105_26, x_105_29, x_105_30, x_105_33, x_105_34, x_105_37, x_105_38, x_105_39, x_105_42, x_105_43, x_105_44, x_105_45, x_105_48, x_105_49, x_105_52, x_105_53, x_105_54, x_105_57, x_105_58, c_105, hp, a1, hkH, n10, k4, e1, hj, en, ew, ef, cx', b1', b2.1, eq, cn', c1', c2.1, z1, Option.bind_some, mAft_n, mAft_v, mAft_x, mS_n, mS_i, mS_r, mS_l, mS_d, ne_eq, not_false_eq_true, not_true_eq_false, true_or, or_true, and_true, true_and, if_true, if_false, ite_true, ite_false, reduceIte, Nat.reduceAdd, Nat.reduceLeDiff, Nat.reduceEqDiff, false_and, and_false, or_false, false_or, eq_self, reduceCtorEq, mi_316, mi_317, ml_317, mi_318, ml_318, mi_319, ml_319, mi_320, ml_320, mi_321, ml_321, mi_322, ml_322, mi_359, ml_359, mv_316_1, mv_316_4, mv_316_7, mv_316_8, mv_316_9, mv_316_10, mv_316_13, mv_316_14, mv_316_15, pi_0, pi_1, pl_1, pv_1, pi_2, pl_2, pv_2, pi_3, pl_3, pv_3, pi_4, pl_4, pv_4, pi_5, pl_5, pv_5, pi_6, pl_6, pv_10, pi_7, pl_7, pv_11, pi_8, pl_8, pv_12, pi_9, pl_9, pv_13, pi_10, pl_10, pv_14, pi_11, pl_11, pv_15, pv_20, wi_0, wi_1, wl_1, wv_14, wi_2, wl_2, wv_15, wi_3, wl_3, wv_16, wi_4, wl_4, wv_17, wi_5, wl_5, wv_18, wv_21, pt_P, pt_v, pt_w, pt_SI, pt_SL, kM_SI, kM_SL, lI_SL, lV_SL, lK_SL, lN_SL, lL_SL, lIs_SL, nI_SI, nV_SI, nK_SI, nN_SI, nL_SI, nIs_SI, pp_c, pp_l, pp_r, pp_k, pp_k0, pp_j, pp_j0, isl]
      · rw [decide_eq_false cn] at c1
        have c1' : mCall (D + 2) 104 [.ref p, .int 0, .int 4] H2 = some (.inl none, H3) := c1
        simp (maxDischargeDepth := 60) only [hk, x_105_0, x_105_1, x_105_4, x_105_7, x_105_10, x_105_11, x_105_12, x_105_13, x_105_14, x_105_15, x_105_16, x_105_19, x_105_20, x_105_23, x_105_24, x_105_25, x_105_26, x_105_29, x_105_30, x_105_33, x_105_34, x_105_37, x_105_38, x_105_39, x_105_42, x_105_43, x_105_44, x_105_45, x_105_48, x_105_49, x_105_52, x_105_53, x_105_54, x_105_57, x_105_58, c_105, hp, a1, hkH, n10, k4, e1, hj, en, ew, ef, cx', b1', b2.1, eq, cn, c1', c2.1, z1, Option.bind_some, mAft_n, mAft_v, mAft_x, mS_n, mS_i, mS_r, mS_l, mS_d, ne_eq, not_false_eq_true, not_true_eq_false, true_or, or_true, and_true, true_and, if_true, if_false, ite_true, ite_false, reduceIte, Nat.reduceAdd, Nat.reduceLeDiff, Nat.reduceEqDiff, false_and, and_false, or_false, false_or, eq_self, reduceCtorEq, mi_316, mi_317, ml_317, mi_318, ml_318, mi_319, ml_319, mi_320, ml_320, mi_321, ml_321, mi_322, ml_322, mi_359, ml_359, mv_316_1, mv_316_4, mv_316_7, mv_316_8, mv_316_9, mv_316_10, mv_316_13, mv_316_14, mv_316_15, pi_0, pi_1, pl_1, pv_1, pi_2, pl_2, pv_2, pi_3, pl_3, pv_3, pi_4, pl_4, pv_4, pi_5, pl_5, pv_5, pi_6, pl_6, pv_10, pi_7, pl_7, pv_11, pi_8, pl_8, pv_12, pi_9, pl_9, pv_13, pi_10, pl_10, pv_14, pi_11, pl_11, pv_15, pv_20, wi_0, wi_1, wl_1, wv_14, wi_2, wl_2, wv_15, wi_3, wl_3, wv_16, wi_4, wl_4, wv_17, wi_5, wl_5, wv_18, wv_21, pt_P, pt_v, pt_w, pt_SI, pt_SL, kM_SI, kM_SL, lI_SL, lV_SL, lK_SL, lN_SL, lL_SL, lIs_SL, nI_SI, nV_SI, nK_SI, nN_SI, nL_SI, nIs_SI, pp_c, pp_l, pp_r, pp_k, pp_k0, pp_j, pp_j0, isl]
    · rw [decide_eq_false cx] at b1
      have b1' : mCall (D + 2) 104 [.ref p, .int 1, .int 2] H = some (.inl none, H2) := b1
      by_cases cn : n = most
      · rw [decide_eq_true cn] at c1
        have c1' : mCall (D + 2) 104 [.ref p, .int 1, .int 4] H2 = some (.inl none, H3) := c1
        have cn' := eq_true cn
        simp (maxDischargeDepth := 60) only [hk, x_105_0, x_105_1, x_105_4, x_105_7, x_105_10, x_105_11, x_105_12, x_105_13, x_105_14, x_105_15, x_105_16, x_105_19, x_105_20, x_105_23, x_105_24, x_105_25, x_105_26, x_105_29, x_105_30, x_105_33, x_105_34, x_105_37, x_105_38, x_105_39, x_105_42, x_105_43, x_105_44, x_105_45, x_105_48, x_105_49, x_105_52, x_105_53, x_105_54, x_105_57, x_105_58, c_105, hp, a1, hkH, n10, k4, e1, hj, en, ew, ef, cx, b1', b2.1, eq, cn', c1', c2.1, z1, Option.bind_some, mAft_n, mAft_v, mAft_x, mS_n, mS_i, mS_r, mS_l, mS_d, ne_eq, not_false_eq_true, not_true_eq_false, true_or, or_true, and_true, true_and, if_true, if_false, ite_true, ite_false, reduceIte, Nat.reduceAdd, Nat.reduceLeDiff, Nat.reduceEqDiff, false_and, and_false, or_false, false_or, eq_self, reduceCtorEq, mi_316, mi_317, ml_317, mi_318, ml_318, mi_319, ml_319, mi_320, ml_320, mi_321, ml_321, mi_322, ml_322, mi_359, ml_359, mv_316_1, mv_316_4, mv_316_7, mv_316_8, mv_316_9, mv_316_10, mv_316_13, mv_316_14, mv_316_15, pi_0, pi_1, pl_1, pv_1, pi_2, pl_2, pv_2, pi_3, pl_3, pv_3, pi_4, pl_4, pv_4, pi_5, pl_5, pv_5, pi_6, pl_6, pv_10, pi_7, pl_7, pv_11, pi_8, pl_8, pv_12, pi_9, pl_9, pv_13, pi_10, pl_10, pv_14, pi_11, pl_11, pv_15, pv_20, wi_0, wi_1, wl_1, wv_14, wi_2, wl_2, wv_15, wi_3, wl_3, wv_16, wi_4, wl_4, wv_17, wi_5, wl_5, wv_18, wv_21, pt_P, pt_v, pt_w, pt_SI, pt_SL, kM_SI, kM_SL, lI_SL, lV_SL, lK_SL, lN_SL, lL_SL, lIs_SL, nI_SI, nV_SI, nK_SI, nN_SI, nL_SI, nIs_SI, pp_c, pp_l, pp_r, pp_k, pp_k0, pp_j, pp_j0, isl]
      · rw [decide_eq_false cn] at c1
        have c1' : mCall (D + 2) 104 [.ref p, .int 0, .int 4] H2 = some (.inl none, H3) := c1
        simp (maxDischargeDepth := 60) only [hk, x_105_0, x_105_1, x_105_4, x_105_7, x_105_10, x_105_11, x_105_12, x_105_13, x_105_14, x_105_15, x_105_16, x_105_19, x_105_20, x_105_23, x_105_24, x_105_25, x_105_26, x_105_29, x_105_30, x_105_33, x_105_34, x_105_37, x_105_38, x_105_39, x_105_42, x_105_43, x_105_44, x_105_45, x_105_48, x_105_49, x_105_52, x_105_53, x_105_54, x_105_57, x_105_58, c_105, hp, a1, hkH, n10, k4, e1, hj, en, ew, ef, cx, b1', b2.1, eq, cn, c1', c2.1, z1, Option.bind_some, mAft_n, mAft_v, mAft_x, mS_n, mS_i, mS_r, mS_l, mS_d, ne_eq, not_false_eq_true, not_true_eq_false, true_or, or_true, and_true, true_and, if_true, if_false, ite_true, ite_false, reduceIte, Nat.reduceAdd, Nat.reduceLeDiff, Nat.reduceEqDiff, false_and, and_false, or_false, false_or, eq_self, reduceCtorEq, mi_316, mi_317, ml_317, mi_318, ml_318, mi_319, ml_319, mi_320, ml_320, mi_321, ml_321, mi_322, ml_322, mi_359, ml_359, mv_316_1, mv_316_4, mv_316_7, mv_316_8, mv_316_9, mv_316_10, mv_316_13, mv_316_14, mv_316_15, pi_0, pi_1, pl_1, pv_1, pi_2, pl_2, pv_2, pi_3, pl_3, pv_3, pi_4, pl_4, pv_4, pi_5, pl_5, pv_5, pi_6, pl_6, pv_10, pi_7, pl_7, pv_11, pi_8, pl_8, pv_12, pi_9, pl_9, pv_13, pi_10, pl_10, pv_14, pi_11, pl_11, pv_15, pv_20, wi_0, wi_1, wl_1, wv_14, wi_2, wl_2, wv_15, wi_3, wl_3, wv_16, wi_4, wl_4, wv_17, wi_5, wl_5, wv_18, wv_21, pt_P, pt_v, pt_w, pt_SI, pt_SL, kM_SI, kM_SL, lI_SL, lV_SL, lK_SL, lN_SL, lL_SL, lIs_SL, nI_SI, nV_SI, nK_SI, nN_SI, nL_SI, nIs_SI, pp_c, pp_l, pp_r, pp_k, pp_k0, pp_j, pp_j0, isl]
  · intro c
    obtain ⟨H, a1, a2⟩ := eat.2 c
    refine ⟨H, ?_, a2⟩
    simp (maxDischargeDepth := 60) only [hk, x_105_0, x_105_1, x_105_4, x_105_7, x_105_10, x_105_11, x_105_12, x_105_13, x_105_14, x_105_15, x_105_16, x_105_19, x_105_20, x_105_23, x_105_24, x_105_25, x_105_26, x_105_29, x_105_30, x_105_33, x_105_34, x_105_37, x_105_38, x_105_39, x_105_42, x_105_43, x_105_44, x_105_45, x_105_48, x_105_49, x_105_52, x_105_53, x_105_54, x_105_57, x_105_58, c_105, hp, a1, z0, Option.bind_some, mAft_n, mAft_v, mAft_x, mS_n, mS_i, mS_r, mS_l, mS_d, ne_eq, not_false_eq_true, not_true_eq_false, true_or, or_true, and_true, true_and, if_true, if_false, ite_true, ite_false, reduceIte, Nat.reduceAdd, Nat.reduceLeDiff, Nat.reduceEqDiff, false_and, and_false, or_false, false_or, eq_self, reduceCtorEq, mi_316, mi_317, ml_317, mi_318, ml_318, mi_319, ml_319, mi_320, ml_320, mi_321, ml_321, mi_322, ml_322, mi_359, ml_359, mv_316_1, mv_316_4, mv_316_7, mv_316_8, mv_316_9, mv_316_10, mv_316_13, mv_316_14, mv_316_15, pi_0, pi_1, pl_1, pv_1, pi_2, pl_2, pv_2, pi_3, pl_3, pv_3, pi_4, pl_4, pv_4, pi_5, pl_5, pv_5, pi_6, pl_6, pv_10, pi_7, pl_7, pv_11, pi_8, pl_8, pv_12, pi_9, pl_9, pv_13, pi_10, pl_10, pv_14, pi_11, pl_11, pv_15, pv_20, wi_0, wi_1, wl_1, wv_14, wi_2, wl_2, wv_15, wi_3, wl_3, wv_16, wi_4, wl_4, wv_17, wi_5, wl_5, wv_18, wv_21, pt_P, pt_v, pt_w, pt_SI, pt_SL, kM_SI, kM_SL, lI_SL, lV_SL, lK_SL, lN_SL, lL_SL, lIs_SL, nI_SI, nV_SI, nK_SI, nN_SI, nL_SI, nIs_SI, pp_c, pp_l, pp_r, pp_k, pp_k0, pp_j, pp_j0, isl]
