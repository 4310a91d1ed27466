/-! THE REFERENCE'S BEST -/
theorem rowR_keep {h H : mH} {i : Nat} {S : CS} (m : rowR h i S) (e : ∀ j, j < 4 * (i + 1) → mI H 359 j = mI h 359 j) : rowR H i S := by
  obtain ⟨sec, room, ti, he, wo⟩ := S
  obtain ⟨a, b, c, d⟩ := m
  exact ⟨(e _ (by omega)).trans a, (e _ (by omega)).trans b, (e _ (by omega)).trans c, (e _ (by omega)).trans d⟩
theorem m_bestFrom {D who : Nat} {lim : Int32} {E : EV} {vs : List (Int32 × Int32 × Int32)} {wN : Nat → Nat} (hwh : who < vs.length) (hp : psB E.2.2.1 wN) (hnp : E.2.2.1.length ≤ 6) (hst : ¬ lg (vs.map (·.2.1)) (Int32.ofNat who) < 0) : ∀ (k i : Nat) (S : CS) (h : mH), i + k = 6 → hdN S.2.2.2.1 E.2.2.1.length = i → wCx h E.1 E.2.1 E.2.2.1 vs → rOK12 S.2.1 → ¬ lg (vs.map (·.2.1)) (Int32.ofNat who) < S.2.2.1 → rowR h i S →
    ∃ H, mCall (D + k + 4) 255 [.ref 316, .int (Int32.ofNat who), .int (Int32.ofNat i), .int lim] h = some (.inl (some (.int (Int32.ofNat (bFN (vKK vs (Int32.ofNat who) lim) E wN k S)))), H) ∧ Fr [322, 359] h H ∧ ∀ j, j < 4 * (i + 1) → mI H 359 j = mI h 359 j := by
  intro k
  induction k with
  | zero =>
    intro i S h hik hc w hr hti m
    have hall := hdN_all (he := S.2.2.2.1) E.2.2.1.length (by have := hdN_le (he := S.2.2.2.1) E.2.2.1.length; omega)
    have lp : ∀ (n p : Nat) (h' : mH), p + n = E.2.2.1.length → wCx h' E.1 E.2.1 E.2.2.1 vs → rowR h' i S → ∃ H, mExec (mCall (D + 3)) 255 6 [some (.ref 316), some (.int (Int32.ofNat who)), some (.int (Int32.ofNat i)), some (.int lim), some (.int 0), some (.int (Int32.ofNat p))] [] h' = some (.inl (some (.int 0)), H) ∧ Fr [322, 359] h' H ∧ ∀ j, j < 4 * (i + 1) → mI H 359 j = mI h' 359 j := by
      intro n
      induction n with
      | zero =>
        intro p h' e w' m'
        have hk := w'.1
        have hpt := pt_P hk
        have pa := w'.2.2.2.2.1.1
        have c1 := eq_true (show Int32.ofNat E.2.2.1.length ≤ Int32.ofNat p by rw [i_ofle (by omega) (by omega)]; omega)
        refine ⟨h', ?_, ⟨rfl, fun _ _ _ => rfl⟩, fun _ _ => rfl⟩
        rw [x_255_6]
        simp (maxDischargeDepth := 60) only [hk, x_255_0, x_255_1, x_255_3, x_255_4, x_255_8, x_255_9, x_255_12, x_255_15, x_255_18, x_255_19, x_255_20, x_255_21, x_255_23, x_255_24, x_255_27, x_255_30, x_255_32, x_255_33, x_255_36, x_255_39, x_255_40, x_255_42, x_255_43, x_255_44, x_255_45, x_255_46, x_255_47, x_255_48, x_255_49, x_255_50, x_255_51, x_255_52, x_255_55, x_255_56, x_255_59, x_255_61, x_255_64, x_255_67, x_255_69, hpt, pa, c1, Option.bind_some, mAft_n, mAft_v, mAft_x, mS_n, mS_i, mS_r, mS_l, mS_d, ne_eq, not_false_eq_true, not_true_eq_false, true_or, or_true, and_true, true_and, if_true, if_false, ite_true, ite_false, reduceIte, Nat.reduceAdd, Nat.reduceLeDiff, Nat.reduceEqDiff, false_and, and_false, or_false, false_or, eq_self, reduceCtorEq, mi_316, mi_317, ml_317, mi_318, ml_318, mi_319, ml_319, mi_320, ml_320, mi_321, ml_321, mi_322, ml_322, mi_359, ml_359, mv_316_1, mv_316_4, mv_316_7, mv_316_8, mv_316_9, mv_316_10, mv_316_13, mv_316_14, mv_316_15, pi_0, pi_1, pl_1, pv_1, pi_2, pl_2, pv_2, pi_3, pl_3, pv_3, pi_4, pl_4, pv_4, pi_5, pl_5, pv_5, pi_6, pl_6, pv_10, pi_7, pl_7, pv_11, pi_8, pl_8, pv_12, pi_9, pl_9, pv_13, pi_10, pl_10, pv_14, pi_11, pl_11, pv_15, pv_20, wi_0, wi_1, wl_1, wv_14, wi_2, wl_2, wv_15, wi_3, wl_3, wv_16, wi_4, wl_4, wv_17, wi_5, wl_5, wv_18, wv_21, pt_P, pt_v, pt_w, pt_SI, pt_SL, kM_SI, kM_SL, lI_SL, lV_SL, lK_SL, lN_SL, lL_SL, lIs_SL, nI_SI, nV_SI, nK_SI, nN_SI, nL_SI, nIs_SI, pp_c, pp_l, pp_r, pp_k, pp_k0, pp_j, pp_j0, isl]
      | succ n ihn =>
        intro p h' e w' m'
        have hk := w'.1
        have hpt := pt_P hk
        have pa := w'.2.2.2.2.1.1
        have c1 : ¬ Int32.ofNat E.2.2.1.length ≤ Int32.ofNat p := by rw [i_ofle (by omega) (by omega)]; omega
        obtain ⟨r, hr12, hre⟩ := hr
        obtain ⟨q, hq12, hqe⟩ := (hp.2 p (by omega)).1
        obtain ⟨H1, t1, t2, t3, _⟩ := m_take (d := D) (lim := lim) w' hwh (show i < 17 by omega) (show p < E.2.2.1.length by omega) hre hr12 hqe hq12 hti m'
        rw [cTake_heard (hall p (by omega))] at t1
        have hk1 := kM_Fr' t2 hk
        obtain ⟨H2, u1, u2, u3⟩ := ihn (p + 1) H1 (by omega) (wCx_Fr t2 (by intro a ha; simp only [List.mem_cons, List.not_mem_nil, or_false] at ha; omega) w') (rowR_keep m' t3)
        refine ⟨H2, ?_, Fr_trans t2 u2, fun j hj => (u3 j hj).trans (t3 j hj)⟩
        rw [← u1, x_255_6]
        simp (maxDischargeDepth := 60) only [hk, x_255_0, x_255_1, x_255_3, x_255_4, x_255_8, x_255_9, x_255_12, x_255_15, x_255_18, x_255_19, x_255_20, x_255_21, x_255_23, x_255_24, x_255_27, x_255_30, x_255_32, x_255_33, x_255_36, x_255_39, x_255_40, x_255_42, x_255_43, x_255_44, x_255_45, x_255_46, x_255_47, x_255_48, x_255_49, x_255_50, x_255_51, x_255_52, x_255_55, x_255_56, x_255_59, x_255_61, x_255_64, x_255_67, x_255_69, hpt, pa, c1, t1, bz_0, hk1, i_succ, Option.bind_some, mAft_n, mAft_v, mAft_x, mS_n, mS_i, mS_r, mS_l, mS_d, ne_eq, not_false_eq_true, not_true_eq_false, true_or, or_true, and_true, true_and, if_true, if_false, ite_true, ite_false, reduceIte, Nat.reduceAdd, Nat.reduceLeDiff, Nat.reduceEqDiff, false_and, and_false, or_false, false_or, eq_self, reduceCtorEq, mi_316, mi_317, ml_317, mi_318, ml_318, mi_319, ml_319, mi_320, ml_320, mi_321, ml_321, mi_322, ml_322, mi_359, ml_359, mv_316_1, mv_316_4, mv_316_7, mv_316_8, mv_316_9, mv_316_10, mv_316_13, mv_316_14, mv_316_15, pi_0, pi_1, pl_1, pv_1, pi_2, pl_2, pv_2, pi_3, pl_3, pv_3, pi_4, pl_4, pv_4, pi_5, pl_5, pv_5, pi_6, pl_6, pv_10, pi_7, pl_7, pv_11, pi_8, pl_8, pv_12, pi_9, pl_9, pv_13, pi_10, pl_10, pv_14, pi_11, pl_11, pv_15, pv_20, wi_0, wi_1, wl_1, wv_14, wi_2, wl_2, wv_15, wi_3, wl_3, wv_16, wi_4, wl_4, wv_17, wi_5, wl_5, wv_18, wv_21, pt_P, pt_v, pt_w, pt_SI, pt_SL, kM_SI, kM_SL, lI_SL, lV_SL, lK_SL, lN_SL, lL_SL, lIs_SL, nI_SI, nV_SI, nK_SI, nN_SI, nL_SI, nIs_SI, pp_c, pp_l, pp_r, pp_k, pp_k0, pp_j, pp_j0, isl]
    obtain ⟨H, u1, u2, u3⟩ := lp E.2.2.1.length 0 h (by omega) w m
    refine ⟨H, ?_, u2, u3⟩
    have hk := w.1
    have u1' : mExec (mCall (D + 3)) 255 6 [some (.ref 316), some (.int (Int32.ofNat who)), some (.int (Int32.ofNat i)), some (.int lim), some (.int 0), some (.int 0)] [] h = _ := u1
    refine Eq.trans ?_ u1'
    simp (maxDischargeDepth := 60) only [hk, x_255_0, x_255_1, x_255_3, x_255_4, x_255_8, x_255_9, x_255_12, x_255_15, x_255_18, x_255_19, x_255_20, x_255_21, x_255_23, x_255_24, x_255_27, x_255_30, x_255_32, x_255_33, x_255_36, x_255_39, x_255_40, x_255_42, x_255_43, x_255_44, x_255_45, x_255_46, x_255_47, x_255_48, x_255_49, x_255_50, x_255_51, x_255_52, x_255_55, x_255_56, x_255_59, x_255_61, x_255_64, x_255_67, x_255_69, c_255, Option.bind_some, mAft_n, mAft_v, mAft_x, mS_n, mS_i, mS_r, mS_l, mS_d, ne_eq, not_false_eq_true, not_true_eq_false, true_or, or_true, and_true, true_and, if_true, if_false, ite_true, ite_false, reduceIte, Nat.reduceAdd, Nat.reduceLeDiff, Nat.reduceEqDiff, false_and, and_false, or_false, false_or, eq_self, reduceCtorEq, mi_316, mi_317, ml_317, mi_318, ml_318, mi_319, ml_319, mi_320, ml_320, mi_321, ml_321, mi_322, ml_322, mi_359, ml_359, mv_316_1, mv_316_4, mv_316_7, mv_316_8, mv_316_9, mv_316_10, mv_316_13, mv_316_14, mv_316_15, pi_0, pi_1, pl_1, pv_1, pi_2, pl_2, pv_2, pi_3, pl_3, pv_3, pi_4, pl_4, pv_4, pi_5, pl_5, pv_5, pi_6, pl_6, pv_10, pi_7, pl_7, pv_11, pi_8, pl_8, pv_12, pi_9, pl_9, pv_13, pi_10, pl_10, pv_14, pi_11, pl_11, pv_15, pv_20, wi_0, wi_1, wl_1, wv_14, wi_2, wl_2, wv_15, wi_3, wl_3, wv_16, wi_4, wl_4, wv_17, wi_5, wl_5, wv_18, wv_21, pt_P, pt_v, pt_w, pt_SI, pt_SL, kM_SI, kM_SL, lI_SL, lV_SL, lK_SL, lN_SL, lL_SL, lIs_SL, nI_SI, nV_SI, nK_SI, nN_SI, nL_SI, nIs_SI, pp_c, pp_l, pp_r, pp_k, pp_k0, pp_j, pp_j0, isl]
  | succ k ih =>
    intro i S h hik hc w hr hti m
    have lp : ∀ (n p mo : Nat) (h' : mH), p + n = E.2.2.1.length → mo ≤ 100000 → wCx h' E.1 E.2.1 E.2.2.1 vs → rowR h' i S → ∃ H, mExec (mCall (D + (k + 1) + 3)) 255 6 [some (.ref 316), some (.int (Int32.ofNat who)), some (.int (Int32.ofNat i)), some (.int lim), some (.int (Int32.ofNat mo)), some (.int (Int32.ofNat p))] [] h' = some (.inl (some (.int (Int32.ofNat (bfN (vKK vs (Int32.ofNat who) lim) E wN (bFN (vKK vs (Int32.ofNat who) lim) E wN k) S n p mo)))), H) ∧ Fr [322, 359] h' H ∧ ∀ j, j < 4 * (i + 1) → mI H 359 j = mI h' 359 j := by
      intro n
      induction n with
      | zero =>
        intro p mo h' e hmo w' m'
        have hk := w'.1
        have hpt := pt_P hk
        have pa := w'.2.2.2.2.1.1
        have c1 := eq_true (show Int32.ofNat E.2.2.1.length ≤ Int32.ofNat p by rw [i_ofle (by omega) (by omega)]; omega)
        refine ⟨h', ?_, ⟨rfl, fun _ _ _ => rfl⟩, fun _ _ => rfl⟩
        rw [x_255_6, bfN]
        simp (maxDischargeDepth := 60) only [hk, x_255_0, x_255_1, x_255_3, x_255_4, x_255_8, x_255_9, x_255_12, x_255_15, x_255_18, x_255_19, x_255_20, x_255_21, x_255_23, x_255_24, x_255_27, x_255_30, x_255_32, x_255_33, x_255_36, x_255_39, x_255_40, x_255_42, x_255_43, x_255_44, x_255_45, x_255_46, x_255_47, x_255_48, x_255_49, x_255_50, x_255_51, x_255_52, x_255_55, x_255_56, x_255_59, x_255_61, x_255_64, x_255_67, x_255_69, hpt, pa, c1, Option.bind_some, mAft_n, mAft_v, mAft_x, mS_n, mS_i, mS_r, mS_l, mS_d, ne_eq, not_false_eq_true, not_true_eq_false, true_or, or_true, and_true, true_and, if_true, if_false, ite_true, ite_false, reduceIte, Nat.reduceAdd, Nat.reduceLeDiff, Nat.reduceEqDiff, false_and, and_false, or_false, false_or, eq_self, reduceCtorEq, mi_316, mi_317, ml_317, mi_318, ml_318, mi_319, ml_319, mi_320, ml_320, mi_321, ml_321, mi_322, ml_322, mi_359, ml_359, mv_316_1, mv_316_4, mv_316_7, mv_316_8, mv_316_9, mv_316_10, mv_316_13, mv_316_14, mv_316_15, pi_0, pi_1, pl_1, pv_1, pi_2, pl_2, pv_2, pi_3, pl_3, pv_3, pi_4, pl_4, pv_4, pi_5, pl_5, pv_5, pi_6, pl_6, pv_10, pi_7, pl_7, pv_11, pi_8, pl_8, pv_12, pi_9, pl_9, pv_13, pi_10, pl_10, pv_14, pi_11, pl_11, pv_15, pv_20, wi_0, wi_1, wl_1, wv_14, wi_2, wl_2, wv_15, wi_3, wl_3, wv_16, wi_4, wl_4, wv_17, wi_5, wl_5, wv_18, wv_21, pt_P, pt_v, pt_w, pt_SI, pt_SL, kM_SI, kM_SL, lI_SL, lV_SL, lK_SL, lN_SL, lL_SL, lIs_SL, nI_SI, nV_SI, nK_SI, nN_SI, nL_SI, nIs_SI, pp_c, pp_l, pp_r, pp_k, pp_k0, pp_j, pp_j0, isl]
      | succ n ihn =>
        intro p mo h' e hmo w' m'
        have hk := w'.1
        have hpt := pt_P hk
        have pa := w'.2.2.2.2.1.1
        have c1 : ¬ Int32.ofNat E.2.2.1.length ≤ Int32.ofNat p := by rw [i_ofle (by omega) (by omega)]; omega
        obtain ⟨r, hr12, hre⟩ := id hr
        obtain ⟨⟨q, hq12, hqe⟩, hwp, hw99, _⟩ := hp.2 p (by omega)
        obtain ⟨H1, t1, t2, t3, t4⟩ := m_take (d := D + (k + 1)) (lim := lim) w' hwh (show i < 17 by omega) (show p < E.2.2.1.length by omega) hre hr12 hqe hq12 hti m'
        have w1 := wCx_Fr t2 (by intro a ha; simp only [List.mem_cons, List.not_mem_nil, or_false] at ha; omega) w'
        have hk1 := w1.1
        have m1 := rowR_keep m' t3
        rw [bfN]
        cases hT : (cTake (vKK vs (Int32.ofNat who) lim) E (Int32.ofNat p) S).1
        · rw [if_neg (by decide)]
          rw [hT] at t1
          obtain ⟨H2, u1, u2, u3⟩ := ihn (p + 1) mo H1 (by omega) hmo w1 m1
          refine ⟨H2, ?_, Fr_trans t2 u2, fun j hj => (u3 j hj).trans (t3 j hj)⟩
          rw [← u1, x_255_6]
          simp (maxDischargeDepth := 60) only [hk, x_255_0, x_255_1, x_255_3, x_255_4, x_255_8, x_255_9, x_255_12, x_255_15, x_255_18, x_255_19, x_255_20, x_255_21, x_255_23, x_255_24, x_255_27, x_255_30, x_255_32, x_255_33, x_255_36, x_255_39, x_255_40, x_255_42, x_255_43, x_255_44, x_255_45, x_255_46, x_255_47, x_255_48, x_255_49, x_255_50, x_255_51, x_255_52, x_255_55, x_255_56, x_255_59, x_255_61, x_255_64, x_255_67, x_255_69, hpt, pa, c1, t1, bz_0, hk1, i_succ, Option.bind_some, mAft_n, mAft_v, mAft_x, mS_n, mS_i, mS_r, mS_l, mS_d, ne_eq, not_false_eq_true, not_true_eq_false, true_or, or_true, and_true, true_and, if_true, if_false, ite_true, ite_false, reduceIte, Nat.reduceAdd, Nat.reduceLeDiff, Nat.reduceEqDiff, false_and, and_false, or_false, false_or, eq_self, reduceCtorEq, mi_316, mi_317, ml_317, mi_318, ml_318, mi_319, ml_319, mi_320, ml_320, mi_321, ml_321, mi_322, ml_322, mi_359, ml_359, mv_316_1, mv_316_4, mv_316_7, mv_316_8, mv_316_9, mv_316_10, mv_316_13, mv_316_14, mv_316_15, pi_0, pi_1, pl_1, pv_1, pi_2, pl_2, pv_2, pi_3, pl_3, pv_3, pi_4, pl_4, pv_4, pi_5, pl_5, pv_5, pi_6, pl_6, pv_10, pi_7, pl_7, pv_11, pi_8, pl_8, pv_12, pi_9, pl_9, pv_13, pi_10, pl_10, pv_14, pi_11, pl_11, pv_15, pv_20, wi_0, wi_1, wl_1, wv_14, wi_2, wl_2, wv_15, wi_3, wl_3, wv_16, wi_4, wl_4, wv_17, wi_5, wl_5, wv_18, wv_21, pt_P, pt_v, pt_w, pt_SI, pt_SL, kM_SI, kM_SL, lI_SL, lV_SL, lK_SL, lN_SL, lL_SL, lIs_SL, nI_SI, nV_SI, nK_SI, nN_SI, nL_SI, nIs_SI, pp_c, pp_l, pp_r, pp_k, pp_k0, pp_j, pp_j0, isl]
        · rw [if_pos rfl]
          rw [hT] at t1
          obtain ⟨z1, z2, z3, z4, z5⟩ := cTake_ok hT hti hst
          have cnt := hdN_or z1 E.2.2.1.length (by omega) (show p < 32 by omega)
          rw [if_pos (show p < E.2.2.1.length by omega), hc, ← z2] at cnt
          obtain ⟨H2, u1, u2, u3⟩ := ih (i + 1) (cTake (vKK vs (Int32.ofNat who) lim) E (Int32.ofNat p) S).2 H1 (by omega) cnt w1 ⟨q, hq12, z5.trans hqe⟩ z4 (t4 hT)
          have w2 := wCx_Fr u2 (by intro a ha; simp only [List.mem_cons, List.not_mem_nil, or_false] at ha; omega) w1
          have hk2 := w2.1
          have bl := bFN_le (K := vKK vs (Int32.ofNat who) lim) (wN := wN) (E := E) (fun p h => (hp.2 p h).2.2.1) k (cTake (vKK vs (Int32.ofNat who) lim) E (Int32.ofNat p) S).2
          generalize bFN (vKK vs (Int32.ofNat who) lim) E wN k (cTake (vKK vs (Int32.ofNat who) lim) E (Int32.ofNat p) S).2 = X at *
          have m2 : rowR H2 i S := rowR_keep m1 (fun j hj => u3 j (by omega))
          have b1 : max mo (wN p + X) ≤ 100000 := by have : wN p + X ≤ 100000 := by omega
                                                     omega
          obtain ⟨H3, g1, g2, g3⟩ := ihn (p + 1) (max mo (wN p + X)) H2 (by omega) b1 w2 m2
          refine ⟨H3, ?_, Fr_trans t2 (Fr_trans u2 g2), fun j hj => (g3 j hj).trans ((u3 j (by omega)).trans (t3 j hj))⟩
          obtain ⟨p0, p1, p2, p3, p4, q0, q1, q2, q3, q4, r0, r1, r2, r3, r4⟩ := ix5 p (by omega)
          have x2 : mI H1 (pt h' + 10) (5 * p + 2) = Int32.ofNat (wN p) := by
            have y := (w1.2.2.2.2.1.2.2 p (by omega)).2.2.1
            rw [pt_Fr t2] at y
            exact y.trans hwp
          have ept := pt_Fr t2
          have em : (if Int32.ofNat mo < Int32.ofNat (wN p + X) then Int32.ofNat (wN p + X) else Int32.ofNat mo) = Int32.ofNat (max mo (wN p + X)) := by
            have := mx_of (a := mo) (b := wN p + X) (by omega) (by omega)
            unfold mx at this
            exact this
          have u1' : mCall (D + (k + 1) + 3) 255 [.ref 316, .int (Int32.ofNat who), .int (Int32.ofNat (i + 1)), .int lim] H1 = some (.inl (some (.int (Int32.ofNat X))), H2) := by
            rw [show D + (k + 1) + 3 = D + k + 4 by omega]; exact u1
          have t1' : mCall (D + (k + 1) + 3) 245 [.ref 316, .int (Int32.ofNat who), .int (Int32.ofNat i), .int (Int32.ofNat p), .int lim] h' = some (.inl (some (.int (bz true))), H1) := t1
          rw [← g1, x_255_6]
          simp (maxDischargeDepth := 60) only [hk, x_255_0, x_255_1, x_255_3, x_255_4, x_255_8, x_255_9, x_255_12, x_255_15, x_255_18, x_255_19, x_255_20, x_255_21, x_255_23, x_255_24, x_255_27, x_255_30, x_255_32, x_255_33, x_255_36, x_255_39, x_255_40, x_255_42, x_255_43, x_255_44, x_255_45, x_255_46, x_255_47, x_255_48, x_255_49, x_255_50, x_255_51, x_255_52, x_255_55, x_255_56, x_255_59, x_255_61, x_255_64, x_255_67, x_255_69, hpt, pa, c1, t1', bz_0, Bool.true_eq_false, hk1, ept, p0, p1, p2, p3, p4, q0, q1, q2, q3, q4, r0, r1, r2, r3, r4, x2, i_succ, u1', hk2, i_addof, m_max, em, Option.bind_some, mAft_n, mAft_v, mAft_x, mS_n, mS_i, mS_r, mS_l, mS_d, ne_eq, not_false_eq_true, not_true_eq_false, true_or, or_true, and_true, true_and, if_true, if_false, ite_true, ite_false, reduceIte, Nat.reduceAdd, Nat.reduceLeDiff, Nat.reduceEqDiff, false_and, and_false, or_false, false_or, eq_self, reduceCtorEq, mi_316, mi_317, ml_317, mi_318, ml_318, mi_319, ml_319, mi_320, ml_320, mi_321, ml_321, mi_322, ml_322, mi_359, ml_359, mv_316_1, mv_316_4, mv_316_7, mv_316_8, mv_316_9, mv_316_10, mv_316_13, mv_316_14, mv_316_15, pi_0, pi_1, pl_1, pv_1, pi_2, pl_2, pv_2, pi_3, pl_3, pv_3, pi_4, pl_4, pv_4, pi_5, pl_5, pv_5, pi_6, pl_6, pv_10, pi_7, pl_7, pv_11, pi_8, pl_8, pv_12, pi_9, pl_9, pv_13, pi_10, pl_10, pv_14, pi_11, pl_11, pv_15, pv_20, wi_0, wi_1, wl_1, wv_14, wi_2, wl_2, wv_15, wi_3, wl_3, wv_16, wi_4, wl_4, wv_17, wi_5, wl_5, wv_18, wv_21, pt_P, pt_v, pt_w, pt_SI, pt_SL, kM_SI, kM_SL, lI_SL, lV_SL, lK_SL, lN_SL, lL_SL, lIs_SL, nI_SI, nV_SI, nK_SI, nN_SI, nL_SI, nIs_SI, pp_c, pp_l, pp_r, pp_k, pp_k0, pp_j, pp_j0, isl]
    obtain ⟨H, u1, u2, u3⟩ := lp E.2.2.1.length 0 0 h (by omega) (by omega) w m
    refine ⟨H, ?_, u2, u3⟩
    have hk := w.1
    rw [show D + (k + 1) + 4 = D + (k + 1) + 3 + 1 by omega]
    have u1' : mExec (mCall (D + (k + 1) + 3)) 255 6 [some (.ref 316), some (.int (Int32.ofNat who)), some (.int (Int32.ofNat i)), some (.int lim), some (.int 0), some (.int 0)] [] h = _ := u1
    refine Eq.trans ?_ u1'
    simp (maxDischargeDepth := 60) only [hk, x_255_0, x_255_1, x_255_3, x_255_4, x_255_8, x_255_9, x_255_12, x_255_15, x_255_18, x_255_19, x_255_20, x_255_21, x_255_23, x_255_24, x_255_27, x_255_30, x_255_32, x_255_33, x_255_36, x_255_39, x_255_40, x_255_42, x_255_43, x_255_44, x_255_45, x_255_46, x_255_47, x_255_48, x_255_49, x_255_50, x_255_51, x_255_52, x_255_55, x_255_56, x_255_59, x_255_61, x_255_64, x_255_67, x_255_69, c_255, Option.bind_some, mAft_n, mAft_v, mAft_x, mS_n, mS_i, mS_r, mS_l, mS_d, ne_eq, not_false_eq_true, not_true_eq_false, true_or, or_true, and_true, true_and, if_true, if_false, ite_true, ite_false, reduceIte, Nat.reduceAdd, Nat.reduceLeDiff, Nat.reduceEqDiff, false_and, and_false, or_false, false_or, eq_self, reduceCtorEq, mi_316, mi_317, ml_317, mi_318, ml_318, mi_319, ml_319, mi_320, ml_320, mi_321, ml_321, mi_322, ml_322, mi_359, ml_359, mv_316_1, mv_316_4, mv_316_7, mv_316_8, mv_316_9, mv_316_10, mv_316_13, mv_316_14, mv_316_15, pi_0, pi_1, pl_1, pv_1, pi_2, pl_2, pv_2, pi_3, pl_3, pv_3, pi_4, pl_4, pv_4, pi_5, pl_5, pv_5, pi_6, pl_6, pv_10, pi_7, pl_7, pv_11, pi_8, pl_8, pv_12, pi_9, pl_9, pv_13, pi_10, pl_10, pv_14, pi_11, pl_11, pv_15, pv_20, wi_0, wi_1, wl_1, wv_14, wi_2, wl_2, wv_15, wi_3, wl_3, wv_16, wi_4, wl_4, wv_17, wi_5, wl_5, wv_18, wv_21, pt_P, pt_v, pt_w, pt_SI, pt_SL, kM_SI, kM_SL, lI_SL, lV_SL, lK_SL, lN_SL, lL_SL, lIs_SL, nI_SI, nV_SI, nK_SI, nN_SI, nL_SI, nIs_SI, pp_c, pp_l, pp_r, pp_k, pp_k0, pp_j, pp_j0, isl]
