/-! THE REFERENCE TELLS OF THE LATEST VISIT -/
theorem m_told {d q : Nat} {h : mH} {E : EV} {rn pn tn : List (List Int32)} {B : List Int32} {ep : Int32} {vs : List (Int32 × Int32 × Int32)} {hv : Bool} {S : VS} {ea : Bool} {P : List Int32} (m : mG h (E, rn, pn, tn, B, ep, vs, hv, S, ea, P)) (hq : q < 10) (hh : hv = true) : ∃ H, mCall (d + 2) 220 [.ref 316, .int (Int32.ofNat q)] h = some (.inl (some (.int (vT S ea (Int32.ofNat q)))), H) ∧ EQM h H ∧ FMc 1 h H ∧ mI H 316 0 = mI h 316 0 := by
  have m0 := m
  obtain ⟨hk, hp, mc, h12, ⟨v1, v2, v3⟩, vo, ⟨tp, _, _⟩, hb, hep, ⟨pp1, _, _⟩, ⟨_, vt⟩, ⟨md, _, _⟩, ⟨pa, _, _⟩, r1, r2, r3, r4, ww, g1⟩ := mG_p m
  rw [if_pos hh] at vt
  obtain ⟨⟨who, lim, ws⟩, wea, _⟩ := vt
  obtain ⟨sec, room, ti, he, wo, st, re, mi, se, l⟩ := S
  obtain ⟨m1, m2, m3, m4, m5, m6, m7, m8, m9, m10, m11, m12, m13, m14, m15⟩ := ws
  obtain ⟨kN, kA, iA, eP, d0, d1, d2, x0, x1, x2, eN⟩ := new_p (n := 10) hk g1
  have hw : isW 347 := Or.inl rfl
  have n8 : ¬ (10 : Int32) < 0 ∧ (10 : Int32).toNatClampNeg ≤ 65536 := by decide
  have k8 : (10 : Int32).toNatClampNeg = 10 := by decide
  have i0 : mIn 0 10 = true := by decide
  have c0 : (0 : Int32).toNatClampNeg = 0 := by decide
  have i1 : mIn 1 10 = true := by decide
  have c1 : (1 : Int32).toNatClampNeg = 1 := by decide
  have i2 : mIn 2 10 = true := by decide
  have c2 : (2 : Int32).toNatClampNeg = 2 := by decide
  have i3 : mIn 3 10 = true := by decide
  have c3 : (3 : Int32).toNatClampNeg = 3 := by decide
  have i4 : mIn 4 10 = true := by decide
  have c4 : (4 : Int32).toNatClampNeg = 4 := by decide
  have i5 : mIn 5 10 = true := by decide
  have c5 : (5 : Int32).toNatClampNeg = 5 := by decide
  have i6 : mIn 6 10 = true := by decide
  have c6 : (6 : Int32).toNatClampNeg = 6 := by decide
  have i7 : mIn 7 10 = true := by decide
  have c7 : (7 : Int32).toNatClampNeg = 7 := by decide
  have i8 : mIn 8 10 = true := by decide
  have c8 : (8 : Int32).toNatClampNeg = 8 := by decide
  have i9 : mIn 9 10 = true := by decide
  have c9 : (9 : Int32).toNatClampNeg = 9 := by decide
  have hj : mIn (Int32.ofNat q) 10 = true := i_in (by rw [i_of_i (by omega)]; omega) (by rw [i_of_i (by omega)]; omega)
  have en : (Int32.ofNat q).toNatClampNeg = q := i_of_n (by omega)
  generalize hG : mSI (mSI (mSI (mSI (mSI (mSI (mSI (mSI (mSI (mSI (mNew h (100, 10) 10) (mN h) 0 (sec)) (mN h) 1 (room)) (mN h) 2 (bC he)) (mN h) 3 (wo)) (mN h) 4 (st)) (mN h) 5 (re)) (mN h) 6 (mi)) (mN h) 7 (bz ea)) (mN h) 8 (ti)) (mN h) 9 (se) = G
  have gq : mI G (mN h) q = vT (sec, room, ti, he, wo, st, re, mi, se, l) ea (Int32.ofNat q) := by
    rw [← hG]
    match q, hq with
    | 0, _ => simp [nI_SI]; rfl
    | 1, _ => simp [nI_SI]; rfl
    | 2, _ => simp [nI_SI]; rfl
    | 3, _ => simp [nI_SI]; rfl
    | 4, _ => simp [nI_SI]; rfl
    | 5, _ => simp [nI_SI]; rfl
    | 6, _ => simp [nI_SI]; rfl
    | 7, _ => simp [nI_SI]; rfl
    | 8, _ => simp [nI_SI]; rfl
    | 9, _ => simp [nI_SI]; rfl
  refine ⟨G, ?_, ?_, ?_, ?_⟩
  · rw [← gq, ← hG]
    simp (maxDischargeDepth := 60) only [hk, x_220_0, x_220_2, x_220_4, x_220_4i, x_220_5, x_220_6, x_220_7, x_220_10, x_220_13, x_220_14, x_220_14i, x_220_15, x_220_16, x_220_17, x_220_20, x_220_23, x_220_24, x_220_24i, x_220_25, x_220_26, x_220_27, x_220_30, x_220_33, x_220_36, x_220_37, x_220_37i, x_220_38, x_220_39, x_220_40, x_220_43, x_220_46, x_220_47, x_220_47i, x_220_48, x_220_49, x_220_50, x_220_53, x_220_56, x_220_57, x_220_57i, x_220_58, x_220_59, x_220_60, x_220_63, x_220_66, x_220_67, x_220_67i, x_220_68, x_220_70, x_220_71, x_220_74, x_220_77, x_220_78, x_220_78i, x_220_79, x_220_81, x_220_82, x_220_85, x_220_88, x_220_89, x_220_89i, x_220_90, x_220_92, x_220_93, x_220_96, x_220_99, x_220_100, x_220_100i, x_220_101, x_220_103, x_220_104, x_220_107, x_220_110, x_220_111, x_220_112, x_220_113, x_220_114, x_220_115, c_220, hp, hw, n8, k8, kN, kA, iA, eP, d0, d1, d2, x0, x1, x2, i0, i1, i2, i3, i4, i5, i6, i7, i8, i9, c0, c1, c2, c3, c4, c5, c6, c7, c8, c9, hj, en, m3, m4, m5, m6, m7, m8, m9, m10, m11, wea, b_count, Option.bind_some, mAft_n, mAft_v, mAft_x, mS_n, mS_i, mS_r, mS_l, mS_d, ne_eq, not_false_eq_true, not_true_eq_false, true_or, or_true, and_true, true_and, if_true, if_false, ite_true, ite_false, reduceIte, Nat.reduceAdd, Nat.reduceLeDiff, Nat.reduceEqDiff, false_and, and_false, or_false, false_or, eq_self, reduceCtorEq, mi_316, mi_317, ml_317, mi_318, ml_318, mi_319, ml_319, mi_320, ml_320, mi_321, ml_321, mi_322, ml_322, mi_359, ml_359, mv_316_1, mv_316_4, mv_316_7, mv_316_8, mv_316_9, mv_316_10, mv_316_13, mv_316_14, mv_316_15, pi_0, pi_1, pl_1, pv_1, pi_2, pl_2, pv_2, pi_3, pl_3, pv_3, pi_4, pl_4, pv_4, pi_5, pl_5, pv_5, pi_6, pl_6, pv_10, pi_7, pl_7, pv_11, pi_8, pl_8, pv_12, pi_9, pl_9, pv_13, pi_10, pl_10, pv_14, pi_11, pl_11, pv_15, pv_20, wi_0, wi_1, wl_1, wv_14, wi_2, wl_2, wv_15, wi_3, wl_3, wv_16, wi_4, wl_4, wv_17, wi_5, wl_5, wv_18, wv_21, pt_P, pt_v, pt_w, pt_SI, pt_SL, kM_SI, kM_SL, lI_SL, lV_SL, lK_SL, lN_SL, lL_SL, lIs_SL, nI_SI, nV_SI, nK_SI, nN_SI, nL_SI, nIs_SI, pp_c, pp_l, pp_r, pp_k, pp_k0, pp_j, pp_j0, isl]
  · rw [← hG]
    repeat' first
      | exact EQM_new EQM_r (by omega)
      | refine EQM_out ?_ (by omega)
  · rw [← hG]
    repeat' first
      | exact FMc_new FMc_r g1 (by omega)
      | refine FMc_SI ?_ (by omega)
  · rw [← hG]
    simp [nI_SI, d0, x0]
theorem FMc_t {c c' : Nat} {h H G : mH} (a : FMc c h H) (b : FMc c' H G) : FMc (c + c') h G := by
  obtain ⟨f1, f2, f3, f4, f5⟩ := b
  obtain ⟨g1, g2, g3, g4, g5⟩ := a
  exact ⟨fun b hb => ⟨(f1 b hb).1.trans (g1 b hb).1, (f1 b hb).2.1.trans (g1 b hb).2.1, (f1 b hb).2.2.1.trans (g1 b hb).2.2.1, (f1 b hb).2.2.2.trans (g1 b hb).2.2.2⟩, Nat.le_trans g2 f2, f3.trans g3, by omega, by omega⟩
def mmC' : Nat → Int32 := fun e => if e = 2 then 1 else 2
theorem m_latest {d : Nat} {w : Int32} {h : mH} {E : EV} {rn pn tn : List (List Int32)} {B : List Int32} {ep : Int32} {vs : List (Int32 × Int32 × Int32)} {hv : Bool} {S : VS} {ea : Bool} {P : List Int32} (m : mG h (E, rn, pn, tn, B, ep, vs, hv, S, ea, P)) : MR h (E, rn, pn, tn, B, ep, vs, hv, S, ea, P) (mCall (d + 3) 221 [.ref 316, .int w] h) mmC' (fLat hv S ea w) := by
  have m0 := m
  obtain ⟨hk, hp, mc, h12, vi, vo, tp, hb, hep, pp, vt, md, pa, r1, r2, r3, r4, ww, g1⟩ := mG_p m
  have hw : isW 347 := Or.inl rfl
  have v0 := vt.1
  unfold fLat
  rcases iw (w := w) (n := 9) (by omega) with ⟨h3, z, hz, rfl⟩ | ⟨h3, hz⟩
  · have h3' : inR (Int32.ofNat z) 0 9 = true := h3
    rw [if_pos h3']
    by_cases hh : hv = true
    · rw [if_pos hh]
      have mG1 := mG_eq (EQM_thr (x := 0) EQM_r) m0
      obtain ⟨H, a1, a2, a3, a4⟩ := m_told (d := d) (q := z) mG1 (by omega) hh
      rw [hh] at v0
      have v0' : mI h 347 0 = 1 := v0
      have n10 : ¬ (1 : Int32) = 0 := by decide
      refine ⟨H, ?_, by rw [a4, nI_SI, if_pos ⟨rfl, rfl⟩]; rfl, mG_eq a2 mG1, FM_c (FMc_t (FMc_SI (FMc_r (h := h)) (a := 316) (k := 0) (x := 0) (by omega)) a3) (by omega)⟩
      have hkH := (EQM_k a2 mG1.2.1.1).1
      simp (maxDischargeDepth := 60) only [hk, x_221_0, x_221_1, x_221_2, x_221_5, x_221_6, x_221_7, x_221_9, x_221_12, x_221_15, x_221_16, x_221_17, x_221_20, x_221_21, x_221_22, x_221_25, x_221_28, x_221_31, x_221_32, x_221_33, x_221_36, x_221_39, x_221_40, x_221_41, x_221_44, c_221, hw, m_isIn, h3', bz_0, Bool.true_eq_false, v0', n10, a1, hkH, Option.bind_some, mAft_n, mAft_v, mAft_x, mS_n, mS_i, mS_r, mS_l, mS_d, ne_eq, not_false_eq_true, not_true_eq_false, true_or, or_true, and_true, true_and, if_true, if_false, ite_true, ite_false, reduceIte, Nat.reduceAdd, Nat.reduceLeDiff, Nat.reduceEqDiff, false_and, and_false, or_false, false_or, eq_self, reduceCtorEq, mi_316, mi_317, ml_317, mi_318, ml_318, mi_319, ml_319, mi_320, ml_320, mi_321, ml_321, mi_322, ml_322, mi_359, ml_359, mv_316_1, mv_316_4, mv_316_7, mv_316_8, mv_316_9, mv_316_10, mv_316_13, mv_316_14, mv_316_15, pi_0, pi_1, pl_1, pv_1, pi_2, pl_2, pv_2, pi_3, pl_3, pv_3, pi_4, pl_4, pv_4, pi_5, pl_5, pv_5, pi_6, pl_6, pv_10, pi_7, pl_7, pv_11, pi_8, pl_8, pv_12, pi_9, pl_9, pv_13, pi_10, pl_10, pv_14, pi_11, pl_11, pv_15, pv_20, wi_0, wi_1, wl_1, wv_14, wi_2, wl_2, wv_15, wi_3, wl_3, wv_16, wi_4, wl_4, wv_17, wi_5, wl_5, wv_18, wv_21, pt_P, pt_v, pt_w, pt_SI, pt_SL, kM_SI, kM_SL, lI_SL, lV_SL, lK_SL, lN_SL, lL_SL, lIs_SL, nI_SI, nV_SI, nK_SI, nN_SI, nL_SI, nIs_SI, pp_c, pp_l, pp_r, pp_k, pp_k0, pp_j, pp_j0, isl]
      rfl
    · rw [if_neg hh]
      have hf : hv = false := (Bool.not_eq_true _).mp hh
      rw [hf] at v0
      have v0' : mI h 347 0 = 0 := v0
      refine MR_thr m0 ?_
      simp (maxDischargeDepth := 60) only [hk, x_221_0, x_221_1, x_221_2, x_221_5, x_221_6, x_221_7, x_221_9, x_221_12, x_221_15, x_221_16, x_221_17, x_221_20, x_221_21, x_221_22, x_221_25, x_221_28, x_221_31, x_221_32, x_221_33, x_221_36, x_221_39, x_221_40, x_221_41, x_221_44, c_221, hw, m_isIn, h3', bz_0, Bool.true_eq_false, v0', m_no, SI_SI, Option.bind_some, mAft_n, mAft_v, mAft_x, mS_n, mS_i, mS_r, mS_l, mS_d, ne_eq, not_false_eq_true, not_true_eq_false, true_or, or_true, and_true, true_and, if_true, if_false, ite_true, ite_false, reduceIte, Nat.reduceAdd, Nat.reduceLeDiff, Nat.reduceEqDiff, false_and, and_false, or_false, false_or, eq_self, reduceCtorEq, mi_316, mi_317, ml_317, mi_318, ml_318, mi_319, ml_319, mi_320, ml_320, mi_321, ml_321, mi_322, ml_322, mi_359, ml_359, mv_316_1, mv_316_4, mv_316_7, mv_316_8, mv_316_9, mv_316_10, mv_316_13, mv_316_14, mv_316_15, pi_0, pi_1, pl_1, pv_1, pi_2, pl_2, pv_2, pi_3, pl_3, pv_3, pi_4, pl_4, pv_4, pi_5, pl_5, pv_5, pi_6, pl_6, pv_10, pi_7, pl_7, pv_11, pi_8, pl_8, pv_12, pi_9, pl_9, pv_13, pi_10, pl_10, pv_14, pi_11, pl_11, pv_15, pv_20, wi_0, wi_1, wl_1, wv_14, wi_2, wl_2, wv_15, wi_3, wl_3, wv_16, wi_4, wl_4, wv_17, wi_5, wl_5, wv_18, wv_21, pt_P, pt_v, pt_w, pt_SI, pt_SL, kM_SI, kM_SL, lI_SL, lV_SL, lK_SL, lN_SL, lL_SL, lIs_SL, nI_SI, nV_SI, nK_SI, nN_SI, nL_SI, nIs_SI, pp_c, pp_l, pp_r, pp_k, pp_k0, pp_j, pp_j0, isl]
      rfl
  · have h3' : inR w 0 9 = false := h3
    rw [if_neg (by rw [h3']; decide)]
    refine MR_thr m0 ?_
    simp (maxDischargeDepth := 60) only [hk, x_221_0, x_221_1, x_221_2, x_221_5, x_221_6, x_221_7, x_221_9, x_221_12, x_221_15, x_221_16, x_221_17, x_221_20, x_221_21, x_221_22, x_221_25, x_221_28, x_221_31, x_221_32, x_221_33, x_221_36, x_221_39, x_221_40, x_221_41, x_221_44, c_221, hw, m_isIn, h3', bz_0, m_no, SI_SI, Option.bind_some, mAft_n, mAft_v, mAft_x, mS_n, mS_i, mS_r, mS_l, mS_d, ne_eq, not_false_eq_true, not_true_eq_false, true_or, or_true, and_true, true_and, if_true, if_false, ite_true, ite_false, reduceIte, Nat.reduceAdd, Nat.reduceLeDiff, Nat.reduceEqDiff, false_and, and_false, or_false, false_or, eq_self, reduceCtorEq, mi_316, mi_317, ml_317, mi_318, ml_318, mi_319, ml_319, mi_320, ml_320, mi_321, ml_321, mi_322, ml_322, mi_359, ml_359, mv_316_1, mv_316_4, mv_316_7, mv_316_8, mv_316_9, mv_316_10, mv_316_13, mv_316_14, mv_316_15, pi_0, pi_1, pl_1, pv_1, pi_2, pl_2, pv_2, pi_3, pl_3, pv_3, pi_4, pl_4, pv_4, pi_5, pl_5, pv_5, pi_6, pl_6, pv_10, pi_7, pl_7, pv_11, pi_8, pl_8, pv_12, pi_9, pl_9, pv_13, pi_10, pl_10, pv_14, pi_11, pl_11, pv_15, pv_20, wi_0, wi_1, wl_1, wv_14, wi_2, wl_2, wv_15, wi_3, wl_3, wv_16, wi_4, wl_4, wv_17, wi_5, wl_5, wv_18, wv_21, pt_P, pt_v, pt_w, pt_SI, pt_SL, kM_SI, kM_SL, lI_SL, lV_SL, lK_SL, lN_SL, lL_SL, lIs_SL, nI_SI, nV_SI, nK_SI, nN_SI, nL_SI, nIs_SI, pp_c, pp_l, pp_r, pp_k, pp_k0, pp_j, pp_j0, isl]
    rfl
