/-! THE REFERENCE'S ROOMS AND CLOSINGS -/
theorem mG_far {H : mH} {h : mH} {E : EV} {rn pn tn : List (List Int32)} {B : List Int32} {ep : Int32} {vs : List (Int32 × Int32 × Int32)} {hv : Bool} {S : VS} {ea : Bool} {P : List Int32} (m : mG h (E, rn, pn, tn, B, ep, vs, hv, S, ea, P)) (f : Fr [316, 322] h H) (e : ∀ j, ¬ j = 0 → mI H 316 j = mI h 316 j) : mG H (E, rn, pn, tn, B, ep, vs, hv, S, ea, P) := by
  obtain ⟨hk, hp, mc, h12, vi, vo, tp, hb, hep, pp, vt, md, pa, r1, r2, r3, r4, ww, g1⟩ := mG_p m
  have I : ∀ a, a ∉ [316, 322] → mI H a = mI h a := fun a ha => by funext j; exact Fr_I f ha
  exact mG_W m f (by simp) (kCl mc (I 320 (by decide)) (I 321 (by decide))) h12 (kVi vi (e 6 (by decide)) (I 319 (by decide))) vo (kTp tp (e 2 (by decide)) (I 317 (by decide))) hb ((e 3 (by decide)).trans hep) (kPp pp (e 5 (by decide)) (I 318 (by decide))) (kVt vt (fun j _ => by rw [I 347 (by decide)]) (I 348 (by decide)))
theorem m_isOpen {d : Nat} {r s : Int32} {h : mH} {E : EV} {rn pn tn : List (List Int32)} {B : List Int32} {ep : Int32} {vs : List (Int32 × Int32 × Int32)} {hv : Bool} {S : VS} {ea : Bool} {P : List Int32} (m : mG h (E, rn, pn, tn, B, ep, vs, hv, S, ea, P)) : MR h (E, rn, pn, tn, B, ep, vs, hv, S, ea, P) (mCall (d + 3) 157 [.ref 316, .int r, .int s] h) mmI (fOpn E.1 rn r s) := by
  have m0 := m
  obtain ⟨hk, hp, mc, h12, vi, vo, tp, hb, hep, pp, vt, md, pa, r1, r2, r3, r4, ww, g1⟩ := mG_p m
  refine MR_thr m0 ?_
  have e1 := m_isRoom (d := d) (x := r) (h := mSI h 316 0 0) (n := rn.length) (by rw [kM_SI]; exact hk) (by rw [pt_SI, mI_SI_other (pt_316 hp)]; exact r1)
  have z0 : (0 : Int32) = 0 ∨ (0 : Int32) = 1 := Or.inl rfl
  have b0 : ∀ b, bz b = 0 ∨ bz b = 1 := fun _ => bz_1
  have le0 : (0 : Int32) ≤ 0 := by decide
  unfold fOpn
  rcases ixP (p := r) (n := rn.length) (by omega) with ⟨h1, q, hq, rfl, h2⟩ | ⟨h1, h2⟩
  · rw [if_neg h2]
    rw [h1] at e1
    have f1 : Fr [316] h (mSI h 316 0 0) := Fr_SI ⟨rfl, fun _ _ _ => rfl⟩ (by simp)
    have op := m_isOpenAt (d := d + 1) (r := q) (s := s) (h := mSI h 316 0 0) (by rw [kM_SI]; exact hk) (by omega) (mClo_Fr f1 (by simp) (by simp) mc) h12
    cases hs : inR s 0 200000
    · rw [if_neg (by decide)]
      simp (maxDischargeDepth := 60) only [hk, x_157_0, x_157_1, x_157_2, x_157_5, x_157_6, x_157_7, x_157_10, x_157_13, x_157_14, x_157_15, x_157_18, x_157_21, x_157_22, x_157_25, x_157_26, x_157_27, x_157_28, x_157_29, x_157_31, x_157_34, x_157_37, x_157_38, x_157_39, x_157_40, x_157_43, x_157_46, x_157_47, x_157_48, x_157_51, x_157_54, x_157_55, x_157_58, x_157_59, c_157, hp, e1, bz_0, Bool.true_eq_false, m_isIn, hs, m_no, SI_SI, z0, le0, Option.bind_some, mAft_n, mAft_v, mAft_x, mS_n, mS_i, mS_r, mS_l, mS_d, ne_eq, not_false_eq_true, not_true_eq_false, true_or, or_true, and_true, true_and, if_true, if_false, ite_true, ite_false, reduceIte, Nat.reduceAdd, Nat.reduceLeDiff, Nat.reduceEqDiff, false_and, and_false, or_false, false_or, eq_self, reduceCtorEq, mi_316, mi_317, ml_317, mi_318, ml_318, mi_319, ml_319, mi_320, ml_320, mi_321, ml_321, mi_322, ml_322, mi_359, ml_359, mv_316_1, mv_316_4, mv_316_7, mv_316_8, mv_316_9, mv_316_10, mv_316_13, mv_316_14, mv_316_15, pi_0, pi_1, pl_1, pv_1, pi_2, pl_2, pv_2, pi_3, pl_3, pv_3, pi_4, pl_4, pv_4, pi_5, pl_5, pv_5, pi_6, pl_6, pv_10, pi_7, pl_7, pv_11, pi_8, pl_8, pv_12, pi_9, pl_9, pv_13, pi_10, pl_10, pv_14, pi_11, pl_11, pv_15, pv_20, wi_0, wi_1, wl_1, wv_14, wi_2, wl_2, wv_15, wi_3, wl_3, wv_16, wi_4, wl_4, wv_17, wi_5, wl_5, wv_18, wv_21, pt_P, pt_v, pt_w, pt_SI, pt_SL, kM_SI, kM_SL, lI_SL, lV_SL, lK_SL, lN_SL, lL_SL, lIs_SL, nI_SI, nV_SI, nK_SI, nN_SI, nL_SI, nIs_SI, pp_c, pp_l, pp_r, pp_k, pp_k0, pp_j, pp_j0, isl]
      rfl
    · rw [if_pos rfl]
      have z1 : (1 : Int32) = 0 ∨ (1 : Int32) = 1 := Or.inr rfl
      cases hb : bt (cOpen E.1 s) (Int32.ofNat q)
      · have op' : mCall (d + 2) 156 [.ref 316, .int (Int32.ofNat q), .int s] (mSI h 316 0 0) = some (.inl (some (.int 0)), mSI h 316 0 0) := by rw [op, hb]; rfl
        simp (maxDischargeDepth := 60) only [hk, x_157_0, x_157_1, x_157_2, x_157_5, x_157_6, x_157_7, x_157_10, x_157_13, x_157_14, x_157_15, x_157_18, x_157_21, x_157_22, x_157_25, x_157_26, x_157_27, x_157_28, x_157_29, x_157_31, x_157_34, x_157_37, x_157_38, x_157_39, x_157_40, x_157_43, x_157_46, x_157_47, x_157_48, x_157_51, x_157_54, x_157_55, x_157_58, x_157_59, c_157, hp, e1, bz_0, Bool.true_eq_false, m_isIn, hs, op', z0, Option.bind_some, mAft_n, mAft_v, mAft_x, mS_n, mS_i, mS_r, mS_l, mS_d, ne_eq, not_false_eq_true, not_true_eq_false, true_or, or_true, and_true, true_and, if_true, if_false, ite_true, ite_false, reduceIte, Nat.reduceAdd, Nat.reduceLeDiff, Nat.reduceEqDiff, false_and, and_false, or_false, false_or, eq_self, reduceCtorEq, mi_316, mi_317, ml_317, mi_318, ml_318, mi_319, ml_319, mi_320, ml_320, mi_321, ml_321, mi_322, ml_322, mi_359, ml_359, mv_316_1, mv_316_4, mv_316_7, mv_316_8, mv_316_9, mv_316_10, mv_316_13, mv_316_14, mv_316_15, pi_0, pi_1, pl_1, pv_1, pi_2, pl_2, pv_2, pi_3, pl_3, pv_3, pi_4, pl_4, pv_4, pi_5, pl_5, pv_5, pi_6, pl_6, pv_10, pi_7, pl_7, pv_11, pi_8, pl_8, pv_12, pi_9, pl_9, pv_13, pi_10, pl_10, pv_14, pi_11, pl_11, pv_15, pv_20, wi_0, wi_1, wl_1, wv_14, wi_2, wl_2, wv_15, wi_3, wl_3, wv_16, wi_4, wl_4, wv_17, wi_5, wl_5, wv_18, wv_21, pt_P, pt_v, pt_w, pt_SI, pt_SL, kM_SI, kM_SL, lI_SL, lV_SL, lK_SL, lN_SL, lL_SL, lIs_SL, nI_SI, nV_SI, nK_SI, nN_SI, nL_SI, nIs_SI, pp_c, pp_l, pp_r, pp_k, pp_k0, pp_j, pp_j0, isl]
        rfl
      · have op' : mCall (d + 2) 156 [.ref 316, .int (Int32.ofNat q), .int s] (mSI h 316 0 0) = some (.inl (some (.int 1)), mSI h 316 0 0) := by rw [op, hb]; rfl
        simp (maxDischargeDepth := 60) only [hk, x_157_0, x_157_1, x_157_2, x_157_5, x_157_6, x_157_7, x_157_10, x_157_13, x_157_14, x_157_15, x_157_18, x_157_21, x_157_22, x_157_25, x_157_26, x_157_27, x_157_28, x_157_29, x_157_31, x_157_34, x_157_37, x_157_38, x_157_39, x_157_40, x_157_43, x_157_46, x_157_47, x_157_48, x_157_51, x_157_54, x_157_55, x_157_58, x_157_59, c_157, hp, e1, bz_0, Bool.true_eq_false, m_isIn, hs, op', z1, Option.bind_some, mAft_n, mAft_v, mAft_x, mS_n, mS_i, mS_r, mS_l, mS_d, ne_eq, not_false_eq_true, not_true_eq_false, true_or, or_true, and_true, true_and, if_true, if_false, ite_true, ite_false, reduceIte, Nat.reduceAdd, Nat.reduceLeDiff, Nat.reduceEqDiff, false_and, and_false, or_false, false_or, eq_self, reduceCtorEq, mi_316, mi_317, ml_317, mi_318, ml_318, mi_319, ml_319, mi_320, ml_320, mi_321, ml_321, mi_322, ml_322, mi_359, ml_359, mv_316_1, mv_316_4, mv_316_7, mv_316_8, mv_316_9, mv_316_10, mv_316_13, mv_316_14, mv_316_15, pi_0, pi_1, pl_1, pv_1, pi_2, pl_2, pv_2, pi_3, pl_3, pv_3, pi_4, pl_4, pv_4, pi_5, pl_5, pv_5, pi_6, pl_6, pv_10, pi_7, pl_7, pv_11, pi_8, pl_8, pv_12, pi_9, pl_9, pv_13, pi_10, pl_10, pv_14, pi_11, pl_11, pv_15, pv_20, wi_0, wi_1, wl_1, wv_14, wi_2, wl_2, wv_15, wi_3, wl_3, wv_16, wi_4, wl_4, wv_17, wi_5, wl_5, wv_18, wv_21, pt_P, pt_v, pt_w, pt_SI, pt_SL, kM_SI, kM_SL, lI_SL, lV_SL, lK_SL, lN_SL, lL_SL, lIs_SL, nI_SI, nV_SI, nK_SI, nN_SI, nL_SI, nIs_SI, pp_c, pp_l, pp_r, pp_k, pp_k0, pp_j, pp_j0, isl]
        rfl
  · rw [if_pos h2]
    rw [h1] at e1
    simp (maxDischargeDepth := 60) only [hk, x_157_0, x_157_1, x_157_2, x_157_5, x_157_6, x_157_7, x_157_10, x_157_13, x_157_14, x_157_15, x_157_18, x_157_21, x_157_22, x_157_25, x_157_26, x_157_27, x_157_28, x_157_29, x_157_31, x_157_34, x_157_37, x_157_38, x_157_39, x_157_40, x_157_43, x_157_46, x_157_47, x_157_48, x_157_51, x_157_54, x_157_55, x_157_58, x_157_59, c_157, hp, e1, bz_0, m_no, SI_SI, z0, le0, Option.bind_some, mAft_n, mAft_v, mAft_x, mS_n, mS_i, mS_r, mS_l, mS_d, ne_eq, not_false_eq_true, not_true_eq_false, true_or, or_true, and_true, true_and, if_true, if_false, ite_true, ite_false, reduceIte, Nat.reduceAdd, Nat.reduceLeDiff, Nat.reduceEqDiff, false_and, and_false, or_false, false_or, eq_self, reduceCtorEq, mi_316, mi_317, ml_317, mi_318, ml_318, mi_319, ml_319, mi_320, ml_320, mi_321, ml_321, mi_322, ml_322, mi_359, ml_359, mv_316_1, mv_316_4, mv_316_7, mv_316_8, mv_316_9, mv_316_10, mv_316_13, mv_316_14, mv_316_15, pi_0, pi_1, pl_1, pv_1, pi_2, pl_2, pv_2, pi_3, pl_3, pv_3, pi_4, pl_4, pv_4, pi_5, pl_5, pv_5, pi_6, pl_6, pv_10, pi_7, pl_7, pv_11, pi_8, pl_8, pv_12, pi_9, pl_9, pv_13, pi_10, pl_10, pv_14, pi_11, pl_11, pv_15, pv_20, wi_0, wi_1, wl_1, wv_14, wi_2, wl_2, wv_15, wi_3, wl_3, wv_16, wi_4, wl_4, wv_17, wi_5, wl_5, wv_18, wv_21, pt_P, pt_v, pt_w, pt_SI, pt_SL, kM_SI, kM_SL, lI_SL, lV_SL, lK_SL, lN_SL, lL_SL, lIs_SL, nI_SI, nV_SI, nK_SI, nN_SI, nL_SI, nIs_SI, pp_c, pp_l, pp_r, pp_k, pp_k0, pp_j, pp_j0, isl]
    rfl
theorem m_way {d : Nat} {a b s : Int32} {h : mH} {E : EV} {rn pn tn : List (List Int32)} {B : List Int32} {ep : Int32} {vs : List (Int32 × Int32 × Int32)} {hv : Bool} {S : VS} {ea : Bool} {P : List Int32} (m : mG h (E, rn, pn, tn, B, ep, vs, hv, S, ea, P)) : MR h (E, rn, pn, tn, B, ep, vs, hv, S, ea, P) (mCall (d + 3) 163 [.ref 316, .int a, .int b, .int s] h) mmI (fWay E rn a b s) := by
  have m0 := m
  obtain ⟨hk, hp, mc, h12, vi, vo, tp, hb, hep, pp, vt, md, pa, r1, r2, r3, r4, ww, g1⟩ := mG_p m
  have f1 : Fr [316] h (mSI h 316 0 0) := Fr_SI ⟨rfl, fun _ _ _ => rfl⟩ (by simp)
  have e1 := fun x => m_isRoom (d := d) (x := x) (h := mSI h 316 0 0) (n := rn.length) (by rw [kM_SI]; exact hk) (by rw [pt_SI, mI_SI_other (pt_316 hp)]; exact r1)
  unfold fWay
  rcases ixP (p := a) (n := rn.length) (by omega) with ⟨h1, q, hq, rfl, h2⟩ | ⟨h1, h2⟩
  · rw [if_neg h2]
    rcases ixP (p := b) (n := rn.length) (by omega) with ⟨h3, q2, hq2, rfl, h4⟩ | ⟨h3, h4⟩
    · rw [if_neg h4]
      cases hs : inR s 0 200000
      · rw [if_neg (by decide)]
        refine MR_thr m0 ?_
        simp (maxDischargeDepth := 60) only [hk, x_163_0, x_163_1, x_163_2, x_163_5, x_163_6, x_163_7, x_163_10, x_163_13, x_163_14, x_163_15, x_163_18, x_163_21, x_163_22, x_163_23, x_163_26, x_163_27, x_163_28, x_163_29, x_163_31, x_163_34, x_163_37, x_163_38, x_163_39, x_163_40, x_163_41, x_163_44, x_163_47, x_163_48, x_163_49, x_163_52, c_163, hp, e1, h1, h3, bz_0, Bool.true_eq_false, m_isIn, hs, m_no, SI_SI, Option.bind_some, mAft_n, mAft_v, mAft_x, mS_n, mS_i, mS_r, mS_l, mS_d, ne_eq, not_false_eq_true, not_true_eq_false, true_or, or_true, and_true, true_and, if_true, if_false, ite_true, ite_false, reduceIte, Nat.reduceAdd, Nat.reduceLeDiff, Nat.reduceEqDiff, false_and, and_false, or_false, false_or, eq_self, reduceCtorEq, mi_316, mi_317, ml_317, mi_318, ml_318, mi_319, ml_319, mi_320, ml_320, mi_321, ml_321, mi_322, ml_322, mi_359, ml_359, mv_316_1, mv_316_4, mv_316_7, mv_316_8, mv_316_9, mv_316_10, mv_316_13, mv_316_14, mv_316_15, pi_0, pi_1, pl_1, pv_1, pi_2, pl_2, pv_2, pi_3, pl_3, pv_3, pi_4, pl_4, pv_4, pi_5, pl_5, pv_5, pi_6, pl_6, pv_10, pi_7, pl_7, pv_11, pi_8, pl_8, pv_12, pi_9, pl_9, pv_13, pi_10, pl_10, pv_14, pi_11, pl_11, pv_15, pv_20, wi_0, wi_1, wl_1, wv_14, wi_2, wl_2, wv_15, wi_3, wl_3, wv_16, wi_4, wl_4, wv_17, wi_5, wl_5, wv_18, wv_21, pt_P, pt_v, pt_w, pt_SI, pt_SL, kM_SI, kM_SL, lI_SL, lV_SL, lK_SL, lN_SL, lL_SL, lIs_SL, nI_SI, nV_SI, nK_SI, nN_SI, nL_SI, nIs_SI, pp_c, pp_l, pp_r, pp_k, pp_k0, pp_j, pp_j0, isl]
        rfl
      · rw [if_pos rfl, i_of_n (by omega), i_of_n (by omega)]
        have hk1 : kM (mSI h 316 0 0) := by rw [kM_SI]; exact hk
        have md1 : mDo (mSI h 316 0 0) (pt h) E.2.1 := by
          obtain ⟨d1, d2, d3, d4⟩ := md
          have n9 : ¬ pt h + 9 = 316 := by rcases hp with e | e <;> rw [e] <;> decide
          refine ⟨by rw [mI_SI_other (pt_316 hp)]; exact d1, d2, d3, fun k hk => ?_⟩
          rw [mI_SI_other n9]; exact d4 k hk
        obtain ⟨H, w1, w2⟩ := m_wayOf (d := d) (f := q) (to := q2) (s := s) hk1 pt_SI md1 (mClo_Fr f1 (by simp) (by simp) mc) h12 (by omega) (by omega)
        have F : Fr [316, 322] h H := Fr_trans (Fr_mono f1 (by simp)) (Fr_mono w2 (by simp))
        have e316 : ∀ j, mI H 316 j = mI (mSI h 316 0 0) 316 j := fun j => Fr_I w2 (by decide)
        refine ⟨H, ?_, by rw [e316, nI_SI, if_pos ⟨rfl, rfl⟩]; rfl, mG_far m0 F (fun j hj => by rw [e316, nI_SI, if_neg (by omega)]), FM_c (FMc_Fr FMc_r F (by simp)) (by omega)⟩
        have hkH := kM_Fr' w2 hk1
        simp (maxDischargeDepth := 60) only [hk, x_163_0, x_163_1, x_163_2, x_163_5, x_163_6, x_163_7, x_163_10, x_163_13, x_163_14, x_163_15, x_163_18, x_163_21, x_163_22, x_163_23, x_163_26, x_163_27, x_163_28, x_163_29, x_163_31, x_163_34, x_163_37, x_163_38, x_163_39, x_163_40, x_163_41, x_163_44, x_163_47, x_163_48, x_163_49, x_163_52, c_163, hp, e1, h1, h3, bz_0, Bool.true_eq_false, m_isIn, hs, w1, hkH, Option.bind_some, mAft_n, mAft_v, mAft_x, mS_n, mS_i, mS_r, mS_l, mS_d, ne_eq, not_false_eq_true, not_true_eq_false, true_or, or_true, and_true, true_and, if_true, if_false, ite_true, ite_false, reduceIte, Nat.reduceAdd, Nat.reduceLeDiff, Nat.reduceEqDiff, false_and, and_false, or_false, false_or, eq_self, reduceCtorEq, mi_316, mi_317, ml_317, mi_318, ml_318, mi_319, ml_319, mi_320, ml_320, mi_321, ml_321, mi_322, ml_322, mi_359, ml_359, mv_316_1, mv_316_4, mv_316_7, mv_316_8, mv_316_9, mv_316_10, mv_316_13, mv_316_14, mv_316_15, pi_0, pi_1, pl_1, pv_1, pi_2, pl_2, pv_2, pi_3, pl_3, pv_3, pi_4, pl_4, pv_4, pi_5, pl_5, pv_5, pi_6, pl_6, pv_10, pi_7, pl_7, pv_11, pi_8, pl_8, pv_12, pi_9, pl_9, pv_13, pi_10, pl_10, pv_14, pi_11, pl_11, pv_15, pv_20, wi_0, wi_1, wl_1, wv_14, wi_2, wl_2, wv_15, wi_3, wl_3, wv_16, wi_4, wl_4, wv_17, wi_5, wl_5, wv_18, wv_21, pt_P, pt_v, pt_w, pt_SI, pt_SL, kM_SI, kM_SL, lI_SL, lV_SL, lK_SL, lN_SL, lL_SL, lIs_SL, nI_SI, nV_SI, nK_SI, nN_SI, nL_SI, nIs_SI, pp_c, pp_l, pp_r, pp_k, pp_k0, pp_j, pp_j0, isl]
        rfl
    · rw [if_pos h4]
      refine MR_thr m0 ?_
      simp (maxDischargeDepth := 60) only [hk, x_163_0, x_163_1, x_163_2, x_163_5, x_163_6, x_163_7, x_163_10, x_163_13, x_163_14, x_163_15, x_163_18, x_163_21, x_163_22, x_163_23, x_163_26, x_163_27, x_163_28, x_163_29, x_163_31, x_163_34, x_163_37, x_163_38, x_163_39, x_163_40, x_163_41, x_163_44, x_163_47, x_163_48, x_163_49, x_163_52, c_163, hp, e1, h1, h3, bz_0, Bool.true_eq_false, m_no, SI_SI, Option.bind_some, mAft_n, mAft_v, mAft_x, mS_n, mS_i, mS_r, mS_l, mS_d, ne_eq, not_false_eq_true, not_true_eq_false, true_or, or_true, and_true, true_and, if_true, if_false, ite_true, ite_false, reduceIte, Nat.reduceAdd, Nat.reduceLeDiff, Nat.reduceEqDiff, false_and, and_false, or_false, false_or, eq_self, reduceCtorEq, mi_316, mi_317, ml_317, mi_318, ml_318, mi_319, ml_319, mi_320, ml_320, mi_321, ml_321, mi_322, ml_322, mi_359, ml_359, mv_316_1, mv_316_4, mv_316_7, mv_316_8, mv_316_9, mv_316_10, mv_316_13, mv_316_14, mv_316_15, pi_0, pi_1, pl_1, pv_1, pi_2, pl_2, pv_2, pi_3, pl_3, pv_3, pi_4, pl_4, pv_4, pi_5, pl_5, pv_5, pi_6, pl_6, pv_10, pi_7, pl_7, pv_11, pi_8, pl_8, pv_12, pi_9, pl_9, pv_13, pi_10, pl_10, pv_14, pi_11, pl_11, pv_15, pv_20, wi_0, wi_1, wl_1, wv_14, wi_2, wl_2, wv_15, wi_3, wl_3, wv_16, wi_4, wl_4, wv_17, wi_5, wl_5, wv_18, wv_21, pt_P, pt_v, pt_w, pt_SI, pt_SL, kM_SI, kM_SL, lI_SL, lV_SL, lK_SL, lN_SL, lL_SL, lIs_SL, nI_SI, nV_SI, nK_SI, nN_SI, nL_SI, nIs_SI, pp_c, pp_l, pp_r, pp_k, pp_k0, pp_j, pp_j0, isl]
      rfl
  · rw [if_pos h2]
    refine MR_thr m0 ?_
    simp (maxDischargeDepth := 60) only [hk, x_163_0, x_163_1, x_163_2, x_163_5, x_163_6, x_163_7, x_163_10, x_163_13, x_163_14, x_163_15, x_163_18, x_163_21, x_163_22, x_163_23, x_163_26, x_163_27, x_163_28, x_163_29, x_163_31, x_163_34, x_163_37, x_163_38, x_163_39, x_163_40, x_163_41, x_163_44, x_163_47, x_163_48, x_163_49, x_163_52, c_163, hp, e1, h1, bz_0, m_no, SI_SI, Option.bind_some, mAft_n, mAft_v, mAft_x, mS_n, mS_i, mS_r, mS_l, mS_d, ne_eq, not_false_eq_true, not_true_eq_false, true_or, or_true, and_true, true_and, if_true, if_false, ite_true, ite_false, reduceIte, Nat.reduceAdd, Nat.reduceLeDiff, Nat.reduceEqDiff, false_and, and_false, or_false, false_or, eq_self, reduceCtorEq, mi_316, mi_317, ml_317, mi_318, ml_318, mi_319, ml_319, mi_320, ml_320, mi_321, ml_321, mi_322, ml_322, mi_359, ml_359, mv_316_1, mv_316_4, mv_316_7, mv_316_8, mv_316_9, mv_316_10, mv_316_13, mv_316_14, mv_316_15, pi_0, pi_1, pl_1, pv_1, pi_2, pl_2, pv_2, pi_3, pl_3, pv_3, pi_4, pl_4, pv_4, pi_5, pl_5, pv_5, pi_6, pl_6, pv_10, pi_7, pl_7, pv_11, pi_8, pl_8, pv_12, pi_9, pl_9, pv_13, pi_10, pl_10, pv_14, pi_11, pl_11, pv_15, pv_20, wi_0, wi_1, wl_1, wv_14, wi_2, wl_2, wv_15, wi_3, wl_3, wv_16, wi_4, wl_4, wv_17, wi_5, wl_5, wv_18, wv_21, pt_P, pt_v, pt_w, pt_SI, pt_SL, kM_SI, kM_SL, lI_SL, lV_SL, lK_SL, lN_SL, lL_SL, lIs_SL, nI_SI, nV_SI, nK_SI, nN_SI, nL_SI, nIs_SI, pp_c, pp_l, pp_r, pp_k, pp_k0, pp_j, pp_j0, isl]
    rfl
theorem clR_rm {cl : List CL} {x : Int32} {r : Nat} : clR (cl.filter (fun q => !decide (q.1 = x))) r = if Int32.ofNat r = x then [] else clR cl r := by
  unfold clR
  rw [List.filter_filter]
  by_cases c : Int32.ofNat r = x
  · rw [if_pos c, List.filter_eq_nil_iff]
    intro q _
    subst c
    simp
  · rw [if_neg c]
    congr 1
    funext q
    by_cases e : q.1 = Int32.ofNat r
    · rw [decide_eq_true e, decide_eq_false (by rw [e]; exact c)]; rfl
    · rw [decide_eq_false e]; rfl
theorem m_reopen {d : Nat} {r : Int32} {h : mH} {E : EV} {rn pn tn : List (List Int32)} {B : List Int32} {ep : Int32} {vs : List (Int32 × Int32 × Int32)} {hv : Bool} {S : VS} {ea : Bool} {P : List Int32} (m : mG h (E, rn, pn, tn, B, ep, vs, hv, S, ea, P)) : MR h ((fReS E.1 rn.length r, E.2), rn, pn, tn, B, ep, vs, hv, S, ea, P) (mCall (d + 3) 151 [.ref 316, .int r] h) mmI (fReo E.1 rn.length r) := by
  have m0 := m
  obtain ⟨hk, hp, mc, h12, vi, vo, tp, hb, hep, pp, vt, md, pa, r1, r2, r3, r4, ww, g1⟩ := mG_p m
  have e1 := m_isRoom (d := d) (x := r) (h := mSI h 316 0 0) (n := rn.length) (by rw [kM_SI]; exact hk) (by rw [pt_SI, mI_SI_other (pt_316 hp)]; exact r1)
  unfold fReo fReS
  rcases ixP (p := r) (n := rn.length) (by omega) with ⟨h1, q, hq, rfl, h2⟩ | ⟨h1, h2⟩
  · rw [if_neg h2, if_neg h2]
    rw [h1] at e1
    have hj : mIn (Int32.ofNat q) 12 = true := i_in (by rw [i_of_i (by omega)]; omega) (by rw [i_of_i (by omega)]; omega)
    have en : (Int32.ofNat q).toNatClampNeg = q := i_of_n (by omega)
    obtain ⟨c1, c2, c3⟩ := mc q (by omega)
    have F : Fr [316, 320] h (mSI (mSI h 316 0 0) 320 q 0) := Fr_SI (Fr_SI ⟨rfl, fun _ _ _ => rfl⟩ (by simp)) (by simp)
    have I : ∀ a, a ∉ [316, 320] → mI (mSI (mSI h 316 0 0) 320 q 0) a = mI h a := fun a ha => by funext j; exact Fr_I F ha
    have J : ∀ j, ¬ j = 0 → mI (mSI (mSI h 316 0 0) 320 q 0) 316 j = mI h 316 j := fun j h0 => by rw [nI_SI, if_neg (by omega), nI_SI, if_neg (by omega)]
    refine ⟨mSI (mSI h 316 0 0) 320 q 0, ?_, by rw [nI_SI, if_neg (by omega), nI_SI, if_pos ⟨rfl, rfl⟩]; rfl, ?_, FM_c (FMc_Fr FMc_r F (by simp)) (by omega)⟩
    · rw [clR_cnt] at c2
      simp (maxDischargeDepth := 60) only [hk, x_151_0, x_151_1, x_151_2, x_151_5, x_151_6, x_151_7, x_151_10, x_151_13, x_151_14, x_151_15, x_151_18, x_151_19, x_151_20, x_151_23, x_151_24, x_151_25, x_151_26, x_151_27, x_151_30, x_151_31, x_151_32, x_151_33, x_151_34, c_151, hp, e1, bz_0, Bool.true_eq_false, hj, en, c2, Option.bind_some, mAft_n, mAft_v, mAft_x, mS_n, mS_i, mS_r, mS_l, mS_d, ne_eq, not_false_eq_true, not_true_eq_false, true_or, or_true, and_true, true_and, if_true, if_false, ite_true, ite_false, reduceIte, Nat.reduceAdd, Nat.reduceLeDiff, Nat.reduceEqDiff, false_and, and_false, or_false, false_or, eq_self, reduceCtorEq, mi_316, mi_317, ml_317, mi_318, ml_318, mi_319, ml_319, mi_320, ml_320, mi_321, ml_321, mi_322, ml_322, mi_359, ml_359, mv_316_1, mv_316_4, mv_316_7, mv_316_8, mv_316_9, mv_316_10, mv_316_13, mv_316_14, mv_316_15, pi_0, pi_1, pl_1, pv_1, pi_2, pl_2, pv_2, pi_3, pl_3, pv_3, pi_4, pl_4, pv_4, pi_5, pl_5, pv_5, pi_6, pl_6, pv_10, pi_7, pl_7, pv_11, pi_8, pl_8, pv_12, pi_9, pl_9, pv_13, pi_10, pl_10, pv_14, pi_11, pl_11, pv_15, pv_20, wi_0, wi_1, wl_1, wv_14, wi_2, wl_2, wv_15, wi_3, wl_3, wv_16, wi_4, wl_4, wv_17, wi_5, wl_5, wv_18, wv_21, pt_P, pt_v, pt_w, pt_SI, pt_SL, kM_SI, kM_SL, lI_SL, lV_SL, lK_SL, lN_SL, lL_SL, lIs_SL, nI_SI, nV_SI, nK_SI, nN_SI, nL_SI, nIs_SI, pp_c, pp_l, pp_r, pp_k, pp_k0, pp_j, pp_j0, isl]
      rfl
    · refine mG_W m0 F (by simp) ?_ ?_ (kVi vi (J 6 (by decide)) (I 319 (by decide))) vo (kTp tp (J 2 (by decide)) (I 317 (by decide))) hb ((J 3 (by decide)).trans hep) (kPp pp (J 5 (by decide)) (I 318 (by decide))) (kVt vt (fun j _ => by rw [I 347 (by decide)]) (I 348 (by decide)))
      · intro r' hr'
        rw [clR_rm]
        by_cases c : Int32.ofNat r' = Int32.ofNat q
        · have c' : r' = q := by rw [i_ofeq (by omega) (by omega)] at c; exact c
          rw [if_pos c]
          refine ⟨by simp, by rw [nI_SI, if_pos ⟨rfl, c'⟩]; rfl, fun k hk => by cases hk⟩
        · have c' : ¬ r' = q := by rw [i_ofeq (by omega) (by omega)] at c; exact c
          rw [if_neg c]
          obtain ⟨x, y, z⟩ := mc r' hr'
          refine ⟨x, by rw [nI_SI, if_neg (fun w => c' w.2), mI_SI_other (by decide)]; exact y, fun k hk => ?_⟩
          rw [I 321 (by decide)]; exact z k hk
      · intro x hx
        exact h12 x (List.mem_filter.mp hx).1
  · rw [if_pos h2, if_pos h2]
    rw [h1] at e1
    refine MR_thr m0 ?_
    simp (maxDischargeDepth := 60) only [hk, x_151_0, x_151_1, x_151_2, x_151_5, x_151_6, x_151_7, x_151_10, x_151_13, x_151_14, x_151_15, x_151_18, x_151_19, x_151_20, x_151_23, x_151_24, x_151_25, x_151_26, x_151_27, x_151_30, x_151_31, x_151_32, x_151_33, x_151_34, c_151, hp, e1, bz_0, m_no, SI_SI, Option.bind_some, mAft_n, mAft_v, mAft_x, mS_n, mS_i, mS_r, mS_l, mS_d, ne_eq, not_false_eq_true, not_true_eq_false, true_or, or_true, and_true, true_and, if_true, if_false, ite_true, ite_false, reduceIte, Nat.reduceAdd, Nat.reduceLeDiff, Nat.reduceEqDiff, false_and, and_false, or_false, false_or, eq_self, reduceCtorEq, mi_316, mi_317, ml_317, mi_318, ml_318, mi_319, ml_319, mi_320, ml_320, mi_321, ml_321, mi_322, ml_322, mi_359, ml_359, mv_316_1, mv_316_4, mv_316_7, mv_316_8, mv_316_9, mv_316_10, mv_316_13, mv_316_14, mv_316_15, pi_0, pi_1, pl_1, pv_1, pi_2, pl_2, pv_2, pi_3, pl_3, pv_3, pi_4, pl_4, pv_4, pi_5, pl_5, pv_5, pi_6, pl_6, pv_10, pi_7, pl_7, pv_11, pi_8, pl_8, pv_12, pi_9, pl_9, pv_13, pi_10, pl_10, pv_14, pi_11, pl_11, pv_15, pv_20, wi_0, wi_1, wl_1, wv_14, wi_2, wl_2, wv_15, wi_3, wl_3, wv_16, wi_4, wl_4, wv_17, wi_5, wl_5, wv_18, wv_21, pt_P, pt_v, pt_w, pt_SI, pt_SL, kM_SI, kM_SL, lI_SL, lV_SL, lK_SL, lN_SL, lL_SL, lIs_SL, nI_SI, nV_SI, nK_SI, nN_SI, nL_SI, nIs_SI, pp_c, pp_l, pp_r, pp_k, pp_k0, pp_j, pp_j0, isl]
    rfl
