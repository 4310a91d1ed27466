/-! THE REFERENCE CLOSES A ROOM -/
theorem clR_add {cl : List CL} {x : Int32} {a b : Int32} {r : Nat} : clR (cl ++ [(x, a, b)]) r = if x = Int32.ofNat r then clR cl r ++ [(x, a, b)] else clR cl r := by
  unfold clR
  rw [List.filter_append]
  by_cases c : x = Int32.ofNat r
  · rw [if_pos c, List.filter_cons, if_pos (decide_eq_true c), List.filter_nil]
  · rw [if_neg c, List.filter_cons, if_neg (by rw [decide_eq_false c]; decide), List.filter_nil, List.append_nil]
theorem getD_app {l : List CL} {x d : CL} {k : Nat} (h : k < l.length + 1) : (l ++ [x]).getD k d = if k = l.length then x else l.getD k d := by
  rw [List.getD_eq_getElem?_getD, List.getD_eq_getElem?_getD]
  by_cases c : k = l.length
  · rw [if_pos c, c, List.getElem?_append_right (Nat.le_refl _), Nat.sub_self]; rfl
  · rw [if_neg c, List.getElem?_append_left (by omega)]
theorem m_close {d : Nat} {r a b : Int32} {h : mH} {E : EV} {rn pn tn : List (List Int32)} {B : List Int32} {ep : Int32} {vs : List (Int32 × Int32 × Int32)} {hv : Bool} {S : VS} {ea : Bool} {P : List Int32} (m : mG h (E, rn, pn, tn, B, ep, vs, hv, S, ea, P)) : MR h ((fClS E.1 rn.length r a b, E.2), rn, pn, tn, B, ep, vs, hv, S, ea, P) (mCall (d + 3) 147 [.ref 316, .int r, .int a, .int b] h) mmI (fClo E.1 rn.length r a b) := by
  have m0 := m
  obtain ⟨hk, hp, mc, h12, vi, vo, tp, hb, hep, pp, vt, md, pa, r1, r2, r3, r4, ww, g1⟩ := mG_p m
  have e1 := m_isRoom (d := d) (x := r) (h := mSI h 316 0 0) (n := rn.length) (by rw [kM_SI]; exact hk) (by rw [pt_SI, mI_SI_other (pt_316 hp)]; exact r1)
  unfold fClo fClS
  rcases ixP (p := r) (n := rn.length) (by omega) with ⟨h1, q, hq, rfl, h2⟩ | ⟨h1, h2⟩
  case inr =>
    rw [if_pos h2, if_pos h2]
    rw [h1] at e1
    refine MR_thr m0 ?_
    simp (maxDischargeDepth := 60) only [hk, x_147_0, x_147_1, x_147_2, x_147_5, x_147_6, x_147_7, x_147_10, x_147_13, x_147_14, x_147_15, x_147_18, x_147_19, x_147_20, x_147_23, x_147_24, x_147_25, x_147_28, x_147_29, x_147_31, x_147_34, x_147_35, x_147_36, x_147_39, x_147_40, x_147_41, x_147_44, x_147_45, x_147_46, x_147_47, x_147_50, x_147_51, x_147_52, x_147_55, x_147_56, x_147_57, x_147_60, x_147_62, x_147_63, x_147_64, x_147_65, x_147_66, x_147_69, x_147_70, x_147_71, x_147_72, x_147_73, x_147_74, x_147_75, x_147_76, x_147_79, x_147_81, x_147_82, x_147_83, x_147_84, x_147_85, x_147_88, x_147_89, x_147_90, x_147_91, x_147_92, x_147_93, x_147_94, x_147_95, x_147_96, x_147_97, x_147_100, x_147_101, x_147_102, x_147_103, x_147_104, x_147_105, x_147_106, x_147_107, x_147_110, x_147_111, x_147_112, c_147, hp, e1, bz_0, m_no, SI_SI, Option.bind_some, mAft_n, mAft_v, mAft_x, mS_n, mS_i, mS_r, mS_l, mS_d, ne_eq, not_false_eq_true, not_true_eq_false, true_or, or_true, and_true, true_and, if_true, if_false, ite_true, ite_false, reduceIte, Nat.reduceAdd, Nat.reduceLeDiff, Nat.reduceEqDiff, false_and, and_false, or_false, false_or, eq_self, reduceCtorEq, mi_316, mi_317, ml_317, mi_318, ml_318, mi_319, ml_319, mi_320, ml_320, mi_321, ml_321, mi_322, ml_322, mi_359, ml_359, mv_316_1, mv_316_4, mv_316_7, mv_316_8, mv_316_9, mv_316_10, mv_316_13, mv_316_14, mv_316_15, pi_0, pi_1, pl_1, pv_1, pi_2, pl_2, pv_2, pi_3, pl_3, pv_3, pi_4, pl_4, pv_4, pi_5, pl_5, pv_5, pi_6, pl_6, pv_10, pi_7, pl_7, pv_11, pi_8, pl_8, pv_12, pi_9, pl_9, pv_13, pi_10, pl_10, pv_14, pi_11, pl_11, pv_15, pv_20, wi_0, wi_1, wl_1, wv_14, wi_2, wl_2, wv_15, wi_3, wl_3, wv_16, wi_4, wl_4, wv_17, wi_5, wl_5, wv_18, wv_21, pt_P, pt_v, pt_w, pt_SI, pt_SL, kM_SI, kM_SL, lI_SL, lV_SL, lK_SL, lN_SL, lL_SL, lIs_SL, nI_SI, nV_SI, nK_SI, nN_SI, nL_SI, nIs_SI, pp_c, pp_l, pp_r, pp_k, pp_k0, pp_j, pp_j0, isl]
    rfl
  rw [if_neg h2, if_neg h2]
  rw [h1] at e1
  by_cases c : a < 0 ∨ b ≤ a ∨ 100000 < b
  · rw [if_pos c, if_pos c]
    refine MR_thr m0 ?_
    by_cases d1 : a < 0
    · have d1' := eq_true d1
      simp (maxDischargeDepth := 60) only [hk, x_147_0, x_147_1, x_147_2, x_147_5, x_147_6, x_147_7, x_147_10, x_147_13, x_147_14, x_147_15, x_147_18, x_147_19, x_147_20, x_147_23, x_147_24, x_147_25, x_147_28, x_147_29, x_147_31, x_147_34, x_147_35, x_147_36, x_147_39, x_147_40, x_147_41, x_147_44, x_147_45, x_147_46, x_147_47, x_147_50, x_147_51, x_147_52, x_147_55, x_147_56, x_147_57, x_147_60, x_147_62, x_147_63, x_147_64, x_147_65, x_147_66, x_147_69, x_147_70, x_147_71, x_147_72, x_147_73, x_147_74, x_147_75, x_147_76, x_147_79, x_147_81, x_147_82, x_147_83, x_147_84, x_147_85, x_147_88, x_147_89, x_147_90, x_147_91, x_147_92, x_147_93, x_147_94, x_147_95, x_147_96, x_147_97, x_147_100, x_147_101, x_147_102, x_147_103, x_147_104, x_147_105, x_147_106, x_147_107, x_147_110, x_147_111, x_147_112, c_147, hp, e1, bz_0, Bool.true_eq_false, d1', m_no, SI_SI, Option.bind_some, mAft_n, mAft_v, mAft_x, mS_n, mS_i, mS_r, mS_l, mS_d, ne_eq, not_false_eq_true, not_true_eq_false, true_or, or_true, and_true, true_and, if_true, if_false, ite_true, ite_false, reduceIte, Nat.reduceAdd, Nat.reduceLeDiff, Nat.reduceEqDiff, false_and, and_false, or_false, false_or, eq_self, reduceCtorEq, mi_316, mi_317, ml_317, mi_318, ml_318, mi_319, ml_319, mi_320, ml_320, mi_321, ml_321, mi_322, ml_322, mi_359, ml_359, mv_316_1, mv_316_4, mv_316_7, mv_316_8, mv_316_9, mv_316_10, mv_316_13, mv_316_14, mv_316_15, pi_0, pi_1, pl_1, pv_1, pi_2, pl_2, pv_2, pi_3, pl_3, pv_3, pi_4, pl_4, pv_4, pi_5, pl_5, pv_5, pi_6, pl_6, pv_10, pi_7, pl_7, pv_11, pi_8, pl_8, pv_12, pi_9, pl_9, pv_13, pi_10, pl_10, pv_14, pi_11, pl_11, pv_15, pv_20, wi_0, wi_1, wl_1, wv_14, wi_2, wl_2, wv_15, wi_3, wl_3, wv_16, wi_4, wl_4, wv_17, wi_5, wl_5, wv_18, wv_21, pt_P, pt_v, pt_w, pt_SI, pt_SL, kM_SI, kM_SL, lI_SL, lV_SL, lK_SL, lN_SL, lL_SL, lIs_SL, nI_SI, nV_SI, nK_SI, nN_SI, nL_SI, nIs_SI, pp_c, pp_l, pp_r, pp_k, pp_k0, pp_j, pp_j0, isl]
      rfl
    · by_cases d2 : b ≤ a
      · have d2' := eq_true d2
        simp (maxDischargeDepth := 60) only [hk, x_147_0, x_147_1, x_147_2, x_147_5, x_147_6, x_147_7, x_147_10, x_147_13, x_147_14, x_147_15, x_147_18, x_147_19, x_147_20, x_147_23, x_147_24, x_147_25, x_147_28, x_147_29, x_147_31, x_147_34, x_147_35, x_147_36, x_147_39, x_147_40, x_147_41, x_147_44, x_147_45, x_147_46, x_147_47, x_147_50, x_147_51, x_147_52, x_147_55, x_147_56, x_147_57, x_147_60, x_147_62, x_147_63, x_147_64, x_147_65, x_147_66, x_147_69, x_147_70, x_147_71, x_147_72, x_147_73, x_147_74, x_147_75, x_147_76, x_147_79, x_147_81, x_147_82, x_147_83, x_147_84, x_147_85, x_147_88, x_147_89, x_147_90, x_147_91, x_147_92, x_147_93, x_147_94, x_147_95, x_147_96, x_147_97, x_147_100, x_147_101, x_147_102, x_147_103, x_147_104, x_147_105, x_147_106, x_147_107, x_147_110, x_147_111, x_147_112, c_147, hp, e1, bz_0, Bool.true_eq_false, d1, d2', m_no, SI_SI, Option.bind_some, mAft_n, mAft_v, mAft_x, mS_n, mS_i, mS_r, mS_l, mS_d, ne_eq, not_false_eq_true, not_true_eq_false, true_or, or_true, and_true, true_and, if_true, if_false, ite_true, ite_false, reduceIte, Nat.reduceAdd, Nat.reduceLeDiff, Nat.reduceEqDiff, false_and, and_false, or_false, false_or, eq_self, reduceCtorEq, mi_316, mi_317, ml_317, mi_318, ml_318, mi_319, ml_319, mi_320, ml_320, mi_321, ml_321, mi_322, ml_322, mi_359, ml_359, mv_316_1, mv_316_4, mv_316_7, mv_316_8, mv_316_9, mv_316_10, mv_316_13, mv_316_14, mv_316_15, pi_0, pi_1, pl_1, pv_1, pi_2, pl_2, pv_2, pi_3, pl_3, pv_3, pi_4, pl_4, pv_4, pi_5, pl_5, pv_5, pi_6, pl_6, pv_10, pi_7, pl_7, pv_11, pi_8, pl_8, pv_12, pi_9, pl_9, pv_13, pi_10, pl_10, pv_14, pi_11, pl_11, pv_15, pv_20, wi_0, wi_1, wl_1, wv_14, wi_2, wl_2, wv_15, wi_3, wl_3, wv_16, wi_4, wl_4, wv_17, wi_5, wl_5, wv_18, wv_21, pt_P, pt_v, pt_w, pt_SI, pt_SL, kM_SI, kM_SL, lI_SL, lV_SL, lK_SL, lN_SL, lL_SL, lIs_SL, nI_SI, nV_SI, nK_SI, nN_SI, nL_SI, nIs_SI, pp_c, pp_l, pp_r, pp_k, pp_k0, pp_j, pp_j0, isl]
        rfl
      · have d3 : 100000 < b := (c.resolve_left d1).resolve_left d2
        have d3' : ¬ b ≤ 100000 := by rw [i_lt] at d3; rw [i_le]; omega
        simp (maxDischargeDepth := 60) only [hk, x_147_0, x_147_1, x_147_2, x_147_5, x_147_6, x_147_7, x_147_10, x_147_13, x_147_14, x_147_15, x_147_18, x_147_19, x_147_20, x_147_23, x_147_24, x_147_25, x_147_28, x_147_29, x_147_31, x_147_34, x_147_35, x_147_36, x_147_39, x_147_40, x_147_41, x_147_44, x_147_45, x_147_46, x_147_47, x_147_50, x_147_51, x_147_52, x_147_55, x_147_56, x_147_57, x_147_60, x_147_62, x_147_63, x_147_64, x_147_65, x_147_66, x_147_69, x_147_70, x_147_71, x_147_72, x_147_73, x_147_74, x_147_75, x_147_76, x_147_79, x_147_81, x_147_82, x_147_83, x_147_84, x_147_85, x_147_88, x_147_89, x_147_90, x_147_91, x_147_92, x_147_93, x_147_94, x_147_95, x_147_96, x_147_97, x_147_100, x_147_101, x_147_102, x_147_103, x_147_104, x_147_105, x_147_106, x_147_107, x_147_110, x_147_111, x_147_112, c_147, hp, e1, bz_0, Bool.true_eq_false, d1, d2, d3', m_no, SI_SI, Option.bind_some, mAft_n, mAft_v, mAft_x, mS_n, mS_i, mS_r, mS_l, mS_d, ne_eq, not_false_eq_true, not_true_eq_false, true_or, or_true, and_true, true_and, if_true, if_false, ite_true, ite_false, reduceIte, Nat.reduceAdd, Nat.reduceLeDiff, Nat.reduceEqDiff, false_and, and_false, or_false, false_or, eq_self, reduceCtorEq, mi_316, mi_317, ml_317, mi_318, ml_318, mi_319, ml_319, mi_320, ml_320, mi_321, ml_321, mi_322, ml_322, mi_359, ml_359, mv_316_1, mv_316_4, mv_316_7, mv_316_8, mv_316_9, mv_316_10, mv_316_13, mv_316_14, mv_316_15, pi_0, pi_1, pl_1, pv_1, pi_2, pl_2, pv_2, pi_3, pl_3, pv_3, pi_4, pl_4, pv_4, pi_5, pl_5, pv_5, pi_6, pl_6, pv_10, pi_7, pl_7, pv_11, pi_8, pl_8, pv_12, pi_9, pl_9, pv_13, pi_10, pl_10, pv_14, pi_11, pl_11, pv_15, pv_20, wi_0, wi_1, wl_1, wv_14, wi_2, wl_2, wv_15, wi_3, wl_3, wv_16, wi_4, wl_4, wv_17, wi_5, wl_5, wv_18, wv_21, pt_P, pt_v, pt_w, pt_SI, pt_SL, kM_SI, kM_SL, lI_SL, lV_SL, lK_SL, lN_SL, lL_SL, lIs_SL, nI_SI, nV_SI, nK_SI, nN_SI, nL_SI, nIs_SI, pp_c, pp_l, pp_r, pp_k, pp_k0, pp_j, pp_j0, isl]
        rfl
  rw [if_neg c, if_neg c]
  have d1 : ¬ a < 0 := fun z => c (Or.inl z)
  have d2 : ¬ b ≤ a := fun z => c (Or.inr (Or.inl z))
  have d3 := eq_true (show b ≤ 100000 by have z : ¬ 100000 < b := fun z => c (Or.inr (Or.inr z)); rw [i_lt] at z; rw [i_le]; omega)
  have hj : mIn (Int32.ofNat q) 12 = true := i_in (by rw [i_of_i (by omega)]; omega) (by rw [i_of_i (by omega)]; omega)
  have en : (Int32.ofNat q).toNatClampNeg = q := i_of_n (by omega)
  obtain ⟨c1, c2, c3⟩ := mc q (by omega)
  have e4 : (Int32.ofNat (clR E.1 q).length = 4) = ((clR E.1 q).length = 4) := by rw [show (4 : Int32) = Int32.ofNat 4 from rfl, i_ofeq (by omega) (by omega)]
  by_cases c4 : 4 ≤ cCnt E.1 (Int32.ofNat q)
  · rw [if_pos c4, if_pos c4]
    refine MR_thr m0 ?_
    have c4' := eq_true (show (clR E.1 q).length = 4 by rw [← clR_cnt] at c4; omega)
    simp (maxDischargeDepth := 60) only [hk, x_147_0, x_147_1, x_147_2, x_147_5, x_147_6, x_147_7, x_147_10, x_147_13, x_147_14, x_147_15, x_147_18, x_147_19, x_147_20, x_147_23, x_147_24, x_147_25, x_147_28, x_147_29, x_147_31, x_147_34, x_147_35, x_147_36, x_147_39, x_147_40, x_147_41, x_147_44, x_147_45, x_147_46, x_147_47, x_147_50, x_147_51, x_147_52, x_147_55, x_147_56, x_147_57, x_147_60, x_147_62, x_147_63, x_147_64, x_147_65, x_147_66, x_147_69, x_147_70, x_147_71, x_147_72, x_147_73, x_147_74, x_147_75, x_147_76, x_147_79, x_147_81, x_147_82, x_147_83, x_147_84, x_147_85, x_147_88, x_147_89, x_147_90, x_147_91, x_147_92, x_147_93, x_147_94, x_147_95, x_147_96, x_147_97, x_147_100, x_147_101, x_147_102, x_147_103, x_147_104, x_147_105, x_147_106, x_147_107, x_147_110, x_147_111, x_147_112, c_147, hp, e1, bz_0, Bool.true_eq_false, d1, d2, d3, hj, en, c2, e4, c4', m_no, SI_SI, Option.bind_some, mAft_n, mAft_v, mAft_x, mS_n, mS_i, mS_r, mS_l, mS_d, ne_eq, not_false_eq_true, not_true_eq_false, true_or, or_true, and_true, true_and, if_true, if_false, ite_true, ite_false, reduceIte, Nat.reduceAdd, Nat.reduceLeDiff, Nat.reduceEqDiff, false_and, and_false, or_false, false_or, eq_self, reduceCtorEq, mi_316, mi_317, ml_317, mi_318, ml_318, mi_319, ml_319, mi_320, ml_320, mi_321, ml_321, mi_322, ml_322, mi_359, ml_359, mv_316_1, mv_316_4, mv_316_7, mv_316_8, mv_316_9, mv_316_10, mv_316_13, mv_316_14, mv_316_15, pi_0, pi_1, pl_1, pv_1, pi_2, pl_2, pv_2, pi_3, pl_3, pv_3, pi_4, pl_4, pv_4, pi_5, pl_5, pv_5, pi_6, pl_6, pv_10, pi_7, pl_7, pv_11, pi_8, pl_8, pv_12, pi_9, pl_9, pv_13, pi_10, pl_10, pv_14, pi_11, pl_11, pv_15, pv_20, wi_0, wi_1, wl_1, wv_14, wi_2, wl_2, wv_15, wi_3, wl_3, wv_16, wi_4, wl_4, wv_17, wi_5, wl_5, wv_18, wv_21, pt_P, pt_v, pt_w, pt_SI, pt_SL, kM_SI, kM_SL, lI_SL, lV_SL, lK_SL, lN_SL, lL_SL, lIs_SL, nI_SI, nV_SI, nK_SI, nN_SI, nL_SI, nIs_SI, pp_c, pp_l, pp_r, pp_k, pp_k0, pp_j, pp_j0, isl]
    rfl
  rw [if_neg c4, if_neg c4]
  have c4' : ¬ (clR E.1 q).length = 4 := by rw [← clR_cnt] at c4; omega
  have c5 : (clR E.1 q).length ≤ 3 := by omega
  have e8 : (8 : Int32) * Int32.ofNat q = Int32.ofNat (8 * q) := by rw [show (8 : Int32) = Int32.ofNat 8 from rfl, i_mulof]
  have e2 : (2 : Int32) * Int32.ofNat (clR E.1 q).length = Int32.ofNat (2 * (clR E.1 q).length) := by rw [show (2 : Int32) = Int32.ofNat 2 from rfl, i_mulof]
  have hk1 : mIn (Int32.ofNat (8 * q + 2 * (clR E.1 q).length)) 96 = true := i_in (by rw [i_of_i (by omega)]; omega) (by rw [i_of_i (by omega)]; omega)
  have ek1 : (Int32.ofNat (8 * q + 2 * (clR E.1 q).length)).toNatClampNeg = 8 * q + 2 * (clR E.1 q).length := i_of_n (by omega)
  have hk2 : mIn (Int32.ofNat (8 * q + 2 * (clR E.1 q).length + 1)) 96 = true := i_in (by rw [i_of_i (by omega)]; omega) (by rw [i_of_i (by omega)]; omega)
  have ek2 : (Int32.ofNat (8 * q + 2 * (clR E.1 q).length + 1)).toNatClampNeg = 8 * q + 2 * (clR E.1 q).length + 1 := i_of_n (by omega)
  have eadd : clR (E.1 ++ [(Int32.ofNat q, a, b)]) q = clR E.1 q ++ [(Int32.ofNat q, a, b)] := by rw [clR_add, if_pos rfl]
  have ecnt : cCnt (E.1 ++ [(Int32.ofNat q, a, b)]) (Int32.ofNat q) = (clR E.1 q).length + 1 := by
    rw [← clR_cnt, eadd, List.length_append]; rfl
  generalize hh1 : mSI (mSI (mSI (mSI h 316 0 0) 321 (8 * q + 2 * (clR E.1 q).length) a) 321 (8 * q + 2 * (clR E.1 q).length + 1) b) 320 q (Int32.ofNat ((clR E.1 q).length + 1)) = H
  have F : Fr [316, 320, 321] h H := by
    rw [← hh1]
    exact Fr_SI (Fr_SI (Fr_SI (Fr_SI ⟨rfl, fun _ _ _ => rfl⟩ (by simp)) (by simp)) (by simp)) (by simp)
  have I : ∀ a, a ∉ [316, 320, 321] → mI H a = mI h a := fun a ha => by funext j; exact Fr_I F ha
  have J : ∀ j, ¬ j = 0 → mI H 316 j = mI h 316 j := fun j h0 => by rw [← hh1, mI_SI_other (by decide), mI_SI_other (by decide), mI_SI_other (by decide), nI_SI, if_neg (by omega)]
  refine ⟨H, ?_, by rw [← hh1, mI_SI_other (by decide), mI_SI_other (by decide), mI_SI_other (by decide), nI_SI, if_pos ⟨rfl, rfl⟩]; rfl, ?_, FM_c (FMc_Fr FMc_r F (by simp)) (by omega)⟩
  · rw [ecnt, ← hh1]
    simp (maxDischargeDepth := 60) only [hk, x_147_0, x_147_1, x_147_2, x_147_5, x_147_6, x_147_7, x_147_10, x_147_13, x_147_14, x_147_15, x_147_18, x_147_19, x_147_20, x_147_23, x_147_24, x_147_25, x_147_28, x_147_29, x_147_31, x_147_34, x_147_35, x_147_36, x_147_39, x_147_40, x_147_41, x_147_44, x_147_45, x_147_46, x_147_47, x_147_50, x_147_51, x_147_52, x_147_55, x_147_56, x_147_57, x_147_60, x_147_62, x_147_63, x_147_64, x_147_65, x_147_66, x_147_69, x_147_70, x_147_71, x_147_72, x_147_73, x_147_74, x_147_75, x_147_76, x_147_79, x_147_81, x_147_82, x_147_83, x_147_84, x_147_85, x_147_88, x_147_89, x_147_90, x_147_91, x_147_92, x_147_93, x_147_94, x_147_95, x_147_96, x_147_97, x_147_100, x_147_101, x_147_102, x_147_103, x_147_104, x_147_105, x_147_106, x_147_107, x_147_110, x_147_111, x_147_112, c_147, hp, e1, bz_0, Bool.true_eq_false, d1, d2, d3, hj, en, c2, e4, c4', e8, e2, i_addof, i_succ, hk1, ek1, hk2, ek2, Option.bind_some, mAft_n, mAft_v, mAft_x, mS_n, mS_i, mS_r, mS_l, mS_d, ne_eq, not_false_eq_true, not_true_eq_false, true_or, or_true, and_true, true_and, if_true, if_false, ite_true, ite_false, reduceIte, Nat.reduceAdd, Nat.reduceLeDiff, Nat.reduceEqDiff, false_and, and_false, or_false, false_or, eq_self, reduceCtorEq, mi_316, mi_317, ml_317, mi_318, ml_318, mi_319, ml_319, mi_320, ml_320, mi_321, ml_321, mi_322, ml_322, mi_359, ml_359, mv_316_1, mv_316_4, mv_316_7, mv_316_8, mv_316_9, mv_316_10, mv_316_13, mv_316_14, mv_316_15, pi_0, pi_1, pl_1, pv_1, pi_2, pl_2, pv_2, pi_3, pl_3, pv_3, pi_4, pl_4, pv_4, pi_5, pl_5, pv_5, pi_6, pl_6, pv_10, pi_7, pl_7, pv_11, pi_8, pl_8, pv_12, pi_9, pl_9, pv_13, pi_10, pl_10, pv_14, pi_11, pl_11, pv_15, pv_20, wi_0, wi_1, wl_1, wv_14, wi_2, wl_2, wv_15, wi_3, wl_3, wv_16, wi_4, wl_4, wv_17, wi_5, wl_5, wv_18, wv_21, pt_P, pt_v, pt_w, pt_SI, pt_SL, kM_SI, kM_SL, lI_SL, lV_SL, lK_SL, lN_SL, lL_SL, lIs_SL, nI_SI, nV_SI, nK_SI, nN_SI, nL_SI, nIs_SI, pp_c, pp_l, pp_r, pp_k, pp_k0, pp_j, pp_j0, isl]
    rfl
  · refine mG_W m0 F (by simp) ?_ ?_ (kVi vi (J 6 (by decide)) (I 319 (by decide))) vo (kTp tp (J 2 (by decide)) (I 317 (by decide))) hb ((J 3 (by decide)).trans hep) (kPp pp (J 5 (by decide)) (I 318 (by decide))) (kVt vt (fun j _ => by rw [I 347 (by decide)]) (I 348 (by decide)))
    · intro r' hr'
      by_cases c' : r' = q
      · subst c'
        rw [eadd, List.length_append]
        refine ⟨by simp only [List.length_cons, List.length_nil]; omega, by rw [← hh1, nI_SI, if_pos ⟨rfl, rfl⟩]; rfl, fun k hk => ?_⟩
        simp only [List.length_cons, List.length_nil] at hk
        rw [getD_app (by omega)]
        by_cases ck : k = (clR E.1 r').length
        · rw [if_pos ck, ck, ← hh1]
          refine ⟨?_, ?_⟩
          · rw [mI_SI_other (by decide), nI_SI, if_neg (by omega), nI_SI, if_pos ⟨rfl, rfl⟩]
          · rw [mI_SI_other (by decide), nI_SI, if_pos ⟨rfl, rfl⟩]
        · rw [if_neg ck, ← hh1]
          obtain ⟨y1, y2⟩ := c3 k (by omega)
          refine ⟨?_, ?_⟩
          · rw [mI_SI_other (by decide), nI_SI, if_neg (by omega), nI_SI, if_neg (by omega), mI_SI_other (by decide)]; exact y1
          · rw [mI_SI_other (by decide), nI_SI, if_neg (by omega), nI_SI, if_neg (by omega), mI_SI_other (by decide)]; exact y2
      · have cn : ¬ Int32.ofNat q = Int32.ofNat r' := by rw [i_ofeq (by omega) (by omega)]; omega
        rw [clR_add, if_neg cn]
        obtain ⟨x, y, z⟩ := mc r' hr'
        refine ⟨x, by rw [← hh1, nI_SI, if_neg (fun w => c' w.2), mI_SI_other (by decide), mI_SI_other (by decide), mI_SI_other (by decide)]; exact y, fun k hk => ?_⟩
        obtain ⟨y1, y2⟩ := z k hk
        rw [← hh1]
        refine ⟨?_, ?_⟩
        · rw [mI_SI_other (by decide), nI_SI, if_neg (by omega), nI_SI, if_neg (by omega), mI_SI_other (by decide)]; exact y1
        · rw [mI_SI_other (by decide), nI_SI, if_neg (by omega), nI_SI, if_neg (by omega), mI_SI_other (by decide)]; exact y2
    · intro x hx
      rcases List.mem_append.mp hx with z | z
      · exact h12 x z
      · rw [List.mem_singleton] at z
        exact ⟨q, by omega, by rw [z]⟩
