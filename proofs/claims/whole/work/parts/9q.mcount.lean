/-! THE REFERENCE COUNTS AND TELLS -/
theorem new_p {h : mH} {n : Nat} (hk : kM h) (hN : 361 ≤ mN h) : kM (mNew h (100, n) n) ∧ mK (mNew h (100, n) n) (mN h) = (100, n) ∧ mIs (mNew h (100, n) n) (mN h) 100 = true ∧ pt (mNew h (100, n) n) = pt h ∧ ¬ 316 = mN h ∧ ¬ 347 = mN h ∧ ¬ pt h = mN h ∧ mI (mNew h (100, n) n) 316 = mI h 316 ∧ mI (mNew h (100, n) n) 347 = mI h 347 ∧ mI (mNew h (100, n) n) (pt h) = mI h (pt h) ∧ mN (mNew h (100, n) n) = mN h + 1 := by
  have kA : mK (mNew h (100, n) n) (mN h) = (100, n) := by
    show (if mN h = mN h then (100, n) else _) = _
    rw [if_pos rfl]
  have hp := pt_P hk
  refine ⟨kM_New hk, kA, ?_, (EQM_k (EQM_new EQM_r (by omega)) hk).2, by omega, by omega, ?_, nwI (by omega), nwI (by omega), ?_, rfl⟩
  · unfold mIs
    rw [decide_eq_true_iff, kA]
    exact ⟨by show 200 ≤ mN h; omega, by show mN h < mN h + 1; omega, rfl⟩
  · rcases hp with e | e <;> rw [e] <;> omega
  · rcases hp with e | e <;> rw [e] <;> exact nwI (by omega)
theorem ix8 : ∀ k, k < 10 → mIn (Int32.ofNat k) 10 = true ∧ (Int32.ofNat k).toNatClampNeg = k := by decide +kernel
theorem m_counted {d q : Nat} {h : mH} {E : EV} {rn pn tn : List (List Int32)} {B : List Int32} {ep : Int32} {vs : List (Int32 × Int32 × Int32)} {hv : Bool} {S : VS} {ea : Bool} {P : List Int32} (m : mG h (E, rn, pn, tn, B, ep, vs, hv, S, ea, P)) (hq : q < 8) : ∃ H, mCall (d + 1) 134 [.ref 316, .int (Int32.ofNat q)] h = some (.inl (some (.int (cnL E rn B vs (vLog hv S) P q))), H) ∧ EQM h H ∧ FMc 1 h H ∧ mI H 316 0 = mI h 316 0 := by
  have m0 := m
  obtain ⟨hk, hp, mc, h12, ⟨v1, v2, v3⟩, vo, ⟨tp, _, _⟩, hb, hep, ⟨pp1, _, _⟩, vt, ⟨md, _, _⟩, ⟨pa, _, _⟩, r1, r2, r3, r4, ww, g1⟩ := mG_p m
  obtain ⟨l1, _, _, _, _⟩ := vt_log vt
  obtain ⟨kN, kA, iA, eP, d0, d1, d2, x0, x1, x2, eN⟩ := new_p (n := 8) hk g1
  have hw : isW 347 := Or.inl rfl
  have n8 : ¬ (8 : Int32) < 0 ∧ (8 : Int32).toNatClampNeg ≤ 65536 := by decide
  have k8 : (8 : Int32).toNatClampNeg = 8 := by decide
  have i0 : mIn 0 8 = true := by decide
  have c0 : (0 : Int32).toNatClampNeg = 0 := by decide
  have i1 : mIn 1 8 = true := by decide
  have c1 : (1 : Int32).toNatClampNeg = 1 := by decide
  have i2 : mIn 2 8 = true := by decide
  have c2 : (2 : Int32).toNatClampNeg = 2 := by decide
  have i3 : mIn 3 8 = true := by decide
  have c3 : (3 : Int32).toNatClampNeg = 3 := by decide
  have i4 : mIn 4 8 = true := by decide
  have c4 : (4 : Int32).toNatClampNeg = 4 := by decide
  have i5 : mIn 5 8 = true := by decide
  have c5 : (5 : Int32).toNatClampNeg = 5 := by decide
  have i6 : mIn 6 8 = true := by decide
  have c6 : (6 : Int32).toNatClampNeg = 6 := by decide
  have i7 : mIn 7 8 = true := by decide
  have c7 : (7 : Int32).toNatClampNeg = 7 := by decide
  have hj : mIn (Int32.ofNat q) 8 = true := i_in (by rw [i_of_i (by omega)]; omega) (by rw [i_of_i (by omega)]; omega)
  have en : (Int32.ofNat q).toNatClampNeg = q := i_of_n (by omega)
  generalize hG : mSI (mSI (mSI (mSI (mSI (mSI (mSI (mSI (mNew h (100, 8) 8) (mN h) 0 (Int32.ofNat rn.length)) (mN h) 1 (Int32.ofNat E.2.1.length)) (mN h) 2 (Int32.ofNat E.2.2.1.length)) (mN h) 3 (Int32.ofNat tn.length)) (mN h) 4 (Int32.ofNat vs.length)) (mN h) 5 (Int32.ofNat B.length)) (mN h) 6 (Int32.ofNat P.length)) (mN h) 7 (Int32.ofNat ((vLog hv S).length / 3)) = G
  have gq : mI G (mN h) q = cnL E rn B vs (vLog hv S) P q := by
    rw [← hG]
    unfold cnL
    match q, hq with
    | 0, _ => simp [nI_SI]
    | 1, _ => simp [nI_SI]
    | 2, _ => simp [nI_SI]
    | 3, _ => simp [nI_SI, r4]
    | 4, _ => simp [nI_SI]
    | 5, _ => simp [nI_SI]
    | 6, _ => simp [nI_SI]
    | 7, _ => simp [nI_SI]
  refine ⟨G, ?_, ?_, ?_, ?_⟩
  · rw [← gq, ← hG]
    simp (maxDischargeDepth := 60) only [hk, x_134_0, x_134_2, x_134_4, x_134_4i, x_134_5, x_134_6, x_134_7, x_134_10, x_134_13, x_134_14, x_134_14i, x_134_15, x_134_16, x_134_17, x_134_20, x_134_23, x_134_24, x_134_24i, x_134_25, x_134_26, x_134_27, x_134_30, x_134_33, x_134_34, x_134_34i, x_134_35, x_134_36, x_134_37, x_134_40, x_134_43, x_134_44, x_134_44i, x_134_45, x_134_46, x_134_47, x_134_50, x_134_51, x_134_51i, x_134_52, x_134_53, x_134_54, x_134_57, x_134_58, x_134_58i, x_134_59, x_134_61, x_134_62, x_134_65, x_134_66, x_134_66i, x_134_67, x_134_69, x_134_70, x_134_73, x_134_76, x_134_77, x_134_78, x_134_79, x_134_80, x_134_81, c_134, hp, hw, n8, k8, kN, kA, iA, eP, d0, d1, d2, x0, x1, x2, i0, i1, i2, i3, i4, i5, i6, i7, c0, c1, c2, c3, c4, c5, c6, c7, hj, en, r1, r3, md, pa, v1, tp, pp1, l1, Option.bind_some, mAft_n, mAft_v, mAft_x, mS_n, mS_i, mS_r, mS_l, mS_d, ne_eq, not_false_eq_true, not_true_eq_false, true_or, or_true, and_true, true_and, if_true, if_false, ite_true, ite_false, reduceIte, Nat.reduceAdd, Nat.reduceLeDiff, Nat.reduceEqDiff, false_and, and_false, or_false, false_or, eq_self, reduceCtorEq, mi_316, mi_317, ml_317, mi_318, ml_318, mi_319, ml_319, mi_320, ml_320, mi_321, ml_321, mi_322, ml_322, mi_359, ml_359, mv_316_1, mv_316_4, mv_316_7, mv_316_8, mv_316_9, mv_316_10, mv_316_13, mv_316_14, mv_316_15, pi_0, pi_1, pl_1, pv_1, pi_2, pl_2, pv_2, pi_3, pl_3, pv_3, pi_4, pl_4, pv_4, pi_5, pl_5, pv_5, pi_6, pl_6, pv_10, pi_7, pl_7, pv_11, pi_8, pl_8, pv_12, pi_9, pl_9, pv_13, pi_10, pl_10, pv_14, pi_11, pl_11, pv_15, pv_20, wi_0, wi_1, wl_1, wv_14, wi_2, wl_2, wv_15, wi_3, wl_3, wv_16, wi_4, wl_4, wv_17, wi_5, wl_5, wv_18, wv_21, pt_P, pt_v, pt_w, pt_SI, pt_SL, kM_SI, kM_SL, lI_SL, lV_SL, lK_SL, lN_SL, lL_SL, lIs_SL, nI_SI, nV_SI, nK_SI, nN_SI, nL_SI, nIs_SI, pp_c, pp_l, pp_r, pp_k, pp_k0, pp_j, pp_j0, isl]
  · rw [← hG]
    repeat' first
      | exact EQM_new EQM_r (by omega)
      | refine EQM_out ?_ (by omega)
  · rw [← hG]
    repeat' first
      | exact FMc_new FMc_r g1 (by omega)
      | refine FMc_SI ?_ (by omega)
  · rw [← hG]
    simp [nI_SI, d0, x0]
theorem m_count {d : Nat} {w : Int32} {h : mH} {E : EV} {rn pn tn : List (List Int32)} {B : List Int32} {ep : Int32} {vs : List (Int32 × Int32 × Int32)} {hv : Bool} {S : VS} {ea : Bool} {P : List Int32} (m : mG h (E, rn, pn, tn, B, ep, vs, hv, S, ea, P)) : MR h (E, rn, pn, tn, B, ep, vs, hv, S, ea, P) (mCall (d + 2) 135 [.ref 316, .int w] h) (fun _ => 1) (fCnt E rn B vs (vLog hv S) P w) := by
  have m0 := m
  obtain ⟨hk, hp, mc, h12, vi, vo, tp, hb, hep, pp, vt, md, pa, r1, r2, r3, r4, ww, g1⟩ := mG_p m
  rcases iw (w := w) (n := 7) (by omega) with ⟨h3, z, hz, rfl⟩ | ⟨h3, hz⟩
  · have h3' : inR (Int32.ofNat z) 0 7 = true := h3
    have mG1 := mG_eq (EQM_thr (x := 0) EQM_r) m0
    obtain ⟨H, a1, a2, a3, a4⟩ := m_counted (d := d) (q := z) mG1 (by omega)
    rw [cnL_eq z (by omega)]
    refine ⟨H, ?_, by rw [a4, nI_SI, if_pos ⟨rfl, rfl⟩]; rfl, mG_eq a2 mG1, ?_⟩
    · have hkH := (EQM_k a2 mG1.2.1.1).1
      simp (maxDischargeDepth := 60) only [hk, x_135_0, x_135_1, x_135_2, x_135_5, x_135_6, x_135_7, x_135_9, x_135_12, x_135_15, x_135_16, x_135_17, x_135_20, x_135_23, x_135_24, x_135_25, x_135_28, c_135, m_isIn, h3', bz_0, Bool.true_eq_false, a1, hkH, Option.bind_some, mAft_n, mAft_v, mAft_x, mS_n, mS_i, mS_r, mS_l, mS_d, ne_eq, not_false_eq_true, not_true_eq_false, true_or, or_true, and_true, true_and, if_true, if_false, ite_true, ite_false, reduceIte, Nat.reduceAdd, Nat.reduceLeDiff, Nat.reduceEqDiff, false_and, and_false, or_false, false_or, eq_self, reduceCtorEq, mi_316, mi_317, ml_317, mi_318, ml_318, mi_319, ml_319, mi_320, ml_320, mi_321, ml_321, mi_322, ml_322, mi_359, ml_359, mv_316_1, mv_316_4, mv_316_7, mv_316_8, mv_316_9, mv_316_10, mv_316_13, mv_316_14, mv_316_15, pi_0, pi_1, pl_1, pv_1, pi_2, pl_2, pv_2, pi_3, pl_3, pv_3, pi_4, pl_4, pv_4, pi_5, pl_5, pv_5, pi_6, pl_6, pv_10, pi_7, pl_7, pv_11, pi_8, pl_8, pv_12, pi_9, pl_9, pv_13, pi_10, pl_10, pv_14, pi_11, pl_11, pv_15, pv_20, wi_0, wi_1, wl_1, wv_14, wi_2, wl_2, wv_15, wi_3, wl_3, wv_16, wi_4, wl_4, wv_17, wi_5, wl_5, wv_18, wv_21, pt_P, pt_v, pt_w, pt_SI, pt_SL, kM_SI, kM_SL, lI_SL, lV_SL, lK_SL, lN_SL, lL_SL, lIs_SL, nI_SI, nV_SI, nK_SI, nN_SI, nL_SI, nIs_SI, pp_c, pp_l, pp_r, pp_k, pp_k0, pp_j, pp_j0, isl]
      rfl
    · obtain ⟨f1, f2, f3, f4, f5⟩ := a3
      obtain ⟨g1', g2, g3, g4, g5⟩ := FMc_SI (FMc_r (h := h)) (a := 316) (k := 0) (x := 0) (by omega)
      exact FM_c (c := 1) ⟨fun b hb => ⟨(f1 b hb).1.trans (g1' b hb).1, (f1 b hb).2.1.trans (g1' b hb).2.1, (f1 b hb).2.2.1.trans (g1' b hb).2.2.1, (f1 b hb).2.2.2.trans (g1' b hb).2.2.2⟩, Nat.le_trans g2 f2, f3.trans g3, by omega, by omega⟩ (by omega)
  · have h3' : inR w 0 7 = false := h3
    have e : fCnt E rn B vs (vLog hv S) P w = .inr 2 := by
      unfold fCnt
      rw [if_neg (show ¬ w = 0 from hz 0 (by omega)), if_neg (show ¬ w = 1 from hz 1 (by omega)), if_neg (show ¬ w = 2 from hz 2 (by omega)), if_neg (show ¬ w = 3 from hz 3 (by omega)), if_neg (show ¬ w = 4 from hz 4 (by omega)), if_neg (show ¬ w = 5 from hz 5 (by omega)), if_neg (show ¬ w = 6 from hz 6 (by omega)), if_neg (show ¬ w = 7 from hz 7 (by omega))]
    rw [e]
    refine MR_thr m0 ?_
    simp (maxDischargeDepth := 60) only [hk, x_135_0, x_135_1, x_135_2, x_135_5, x_135_6, x_135_7, x_135_9, x_135_12, x_135_15, x_135_16, x_135_17, x_135_20, x_135_23, x_135_24, x_135_25, x_135_28, c_135, m_isIn, h3', bz_0, m_no, SI_SI, Option.bind_some, mAft_n, mAft_v, mAft_x, mS_n, mS_i, mS_r, mS_l, mS_d, ne_eq, not_false_eq_true, not_true_eq_false, true_or, or_true, and_true, true_and, if_true, if_false, ite_true, ite_false, reduceIte, Nat.reduceAdd, Nat.reduceLeDiff, Nat.reduceEqDiff, false_and, and_false, or_false, false_or, eq_self, reduceCtorEq, mi_316, mi_317, ml_317, mi_318, ml_318, mi_319, ml_319, mi_320, ml_320, mi_321, ml_321, mi_322, ml_322, mi_359, ml_359, mv_316_1, mv_316_4, mv_316_7, mv_316_8, mv_316_9, mv_316_10, mv_316_13, mv_316_14, mv_316_15, pi_0, pi_1, pl_1, pv_1, pi_2, pl_2, pv_2, pi_3, pl_3, pv_3, pi_4, pl_4, pv_4, pi_5, pl_5, pv_5, pi_6, pl_6, pv_10, pi_7, pl_7, pv_11, pi_8, pl_8, pv_12, pi_9, pl_9, pv_13, pi_10, pl_10, pv_14, pi_11, pl_11, pv_15, pv_20, wi_0, wi_1, wl_1, wv_14, wi_2, wl_2, wv_15, wi_3, wl_3, wv_16, wi_4, wl_4, wv_17, wi_5, wl_5, wv_18, wv_21, pt_P, pt_v, pt_w, pt_SI, pt_SL, kM_SI, kM_SL, lI_SL, lV_SL, lK_SL, lN_SL, lL_SL, lIs_SL, nI_SI, nV_SI, nK_SI, nN_SI, nL_SI, nIs_SI, pp_c, pp_l, pp_r, pp_k, pp_k0, pp_j, pp_j0, isl]
    rfl
