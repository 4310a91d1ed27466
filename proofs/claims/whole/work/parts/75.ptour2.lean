/-! THE REFERENCE'S PARSER: A TOUR, READ -/
theorem pS_adT {X : PX} {p i d : Nat} {s : RS} {h : mH} {w : Int64} {x : Int32} (m : pS h p X i d s) (hr : X.2.2.2.2.2.2.2.2.2.1 < 6) : pS (mSI (mSI (mSL h (p + 8) X.2.2.2.2.2.2.2.2.2.1 w) (p + 11) X.2.2.2.2.2.2.2.2.2.1 x) p 9 (Int32.ofNat (X.2.2.2.2.2.2.2.2.2.1 + 1))) p (adT w X) i d s := by
  obtain ⟨k, n, f, wd, rs, ps, ts, nr, np, nt, nd⟩ := X
  obtain ⟨hk, hp, hX, hi, w1, w2, w3, w4, w5, w6, n1, n2, n3, a1, a2, a3, a4, a5, a6, a7⟩ := m
  obtain ⟨x1, x2, x3, x4, x5, x6, x7, x8⟩ := hX
  unfold adT
  dsimp only at *
  have L : ∀ q k, (q = p + 8 → False) → mL (mSI (mSI (mSL h (p + 8) nt w) (p + 11) nt x) p 9 (Int32.ofNat (nt + 1))) q k = mL h q k := by
    intro q k hq
    show (if q = p + 8 ∧ k = nt then w else mL h q k) = _
    rw [if_neg (fun z => hq z.1)]
  have I : ∀ q k, ¬ (q = p ∧ k = 9) → ¬ (q = p + 11) → mI (mSI (mSI (mSL h (p + 8) nt w) (p + 11) nt x) p 9 (Int32.ofNat (nt + 1))) q k = mI h q k := by
    intro q k hq hq2
    show (if q = p ∧ k = 9 then _ else if q = p + 11 ∧ k = nt then x else mI h q k) = _
    rw [if_neg hq, if_neg (fun z => hq2 z.1)]
  refine ⟨by rw [kM_SI, kM_SI, kM_SL]; exact hk, hp, ⟨x1, x2, x3, x4, x5, x6, x7, Nat.succ_le_of_lt hr⟩, hi, ?_, ?_, ?_, ?_, ?_, ?_, ?_, ?_, ?_, ?_, ?_, ?_, ?_, ?_, ?_, ?_⟩
  · intro j hj; rw [I _ _ (by omega) (by omega)]; exact w1 j hj
  · funext q; rw [I _ _ (by omega) (by omega), w2]
  · funext q; rw [L _ _ (by omega), w3]
  · funext q; rw [L _ _ (by omega), w4]
  · funext q; rw [L _ _ (by omega), w5]
  · funext q
    show (if p + 8 = p + 8 ∧ q = nt then w else mL h (p + 8) q) = if q = nt then w else ts q
    rw [w6]
    by_cases z : q = nt <;> simp [z]
  · rw [I _ _ (by omega) (by omega), n1]
  · rw [I _ _ (by omega) (by omega), n2]
  · rw [nI_SI, if_pos ⟨rfl, rfl⟩]
  · rw [I _ _ (by omega) (by omega), a1]
  · rw [I _ _ (by omega) (by omega), a2]
  · rw [I _ _ (by omega) (by omega), a3]
  · rw [I _ _ (by omega) (by omega), a4]
  · funext q; rw [I _ _ (by omega) (by omega), a5]
  · funext q; rw [I _ _ (by omega) (by omega), a6]
  · rw [I _ _ (by omega) (by omega), a7]
theorem sNw_1 {X : PX} {s : RS} {i : Nat} {x : Int32} {f : Bool} (h : (sNw X s i x f).1 = 0) : s.1 = 0 ∧ f = false := by
  unfold sNw at h
  have a := sMn_1 (by decide) h
  exact ⟨(sMn_1 (by decide) a.1).1, a.2⟩
theorem r_tour {D p i b : Nat} {Q : TS} {h : mH} (m : tS h p i Q) (h0 : Q.1.1 i = 10) : RH p i Q h (mCall (D + 36) 122 [.ref p] h) (pTour Q.1.1 i b) := by
  obtain ⟨X, s, td, tp, tt, wo, ki, ne⟩ := Q
  have z0 : (0 : Int32) = 0 ∨ (0 : Int32) = 1 := Or.inl rfl
  have z1 : (1 : Int32) = 0 ∨ (1 : Int32) = 1 := Or.inr rfl
  have n10 : ¬ (1 : Int32) = 0 := by decide
  have mt := m
  obtain ⟨m, t1, t2, t3⟩ := m
  dsimp only at m t1 t2 t3 h0
  obtain ⟨k1, k2, k3, k4, k5, hk, hp⟩ := pS_k m
  obtain ⟨m1, f1⟩ := q_adv m (by omega)
  have hk1 := m1.1
  have n3 : mI h p 9 = Int32.ofNat X.2.2.2.2.2.2.2.2.2.1 := m.2.2.2.2.2.2.2.2.2.2.2.2.1
  have w6 := m1.2.2.2.2.2.2.2.2.2.1
  have cap := m1.2.2.1.2.2.2.2.2.2.2
  have new := q_new (D := D + 32) (t := p + 8) (n := X.2.2.2.2.2.2.2.2.2.1) (most := 6) m1 (pi_8 hk1 hp) (by rw [pl_8 hk1 hp]; exact cap) (by rw [pl_8 hk1 hp]; decide) w6 (by decide) 6 rfl
  have tk0 : ∀ b, tk X.1 10 i b = (i + 1, some ([], [])) := fun b => by unfold tk; rw [if_pos h0]
  show RH p i _ h _ (pTour X.1 i b)
  by_cases g : X.1 (i + 1) = 29
  · obtain ⟨H2, e2, m2, f2⟩ := new.1 g
    have nm0 : ∀ b, nmk X.1 29 66 (i + 1) b = (i + 2, some ([], [(66, i + 1, 0)])) := fun b => by unfold nmk; rw [if_pos g]
    have hk2 := m2.1
    have l42 := (pS_k m2).2.2.2.1
    generalize hs2 : sNw X s (i + 1) (fnL X.2.2.2.2.2.2.1 (X.2.2.2.1 (i + 1)) X.2.2.2.2.2.2.2.2.2.1 0) (decide (X.2.2.2.2.2.2.2.2.2.1 = 6)) = s2 at *
    have rb := r_blk (X := X) 8 (by decide) (D + 35) (by omega) H2 p (i + 1 + 1) b s2 m2
    rcases hB : pBlock X.1 8 (i + 1 + 1) b with ⟨j, _ | ⟨c, e⟩⟩
    · rw [hB] at rb
      obtain ⟨H3, e3, e4, e5, e6, e7⟩ := rb
      have eP : pTour X.1 i b = (j, none) := by
        unfold pTour evE
        rw [sq_sn (tk0 b) (sq_sn (nm0 _) (show pBlock X.1 8 (i + 2) (b + 0 + 0) = (j, none) from hB))]
      rw [eP]
      refine ⟨H3, ?_, e4, e5, e6, FT_mono (FT_Fr (Fr_trans f1 (Fr_trans f2 e7))) (by omega)⟩
      simp (maxDischargeDepth := 60) only [hk, x_122_0, x_122_1, x_122_1i, x_122_2, x_122_5, x_122_6, x_122_7, x_122_10, x_122_11, x_122_12, x_122_15, x_122_16, x_122_19, x_122_21, x_122_24, x_122_27, x_122_28, x_122_29, x_122_30, x_122_33, x_122_34, x_122_35, x_122_38, x_122_41, x_122_42, x_122_43, x_122_44, x_122_47, x_122_50, x_122_51, x_122_52, x_122_53, x_122_56, x_122_57, x_122_60, x_122_61, x_122_64, x_122_65, x_122_66, x_122_67, x_122_68, x_122_69, x_122_70, x_122_73, x_122_74, x_122_77, x_122_78, x_122_79, x_122_80, x_122_80i, x_122_81, x_122_84, x_122_85, x_122_86, x_122_89, x_122_90, c_122, hp, k4, i_succ, hk1, n3, e2, m2.1, n10, l42, e3, z0, Option.bind_some, mAft_n, mAft_v, mAft_x, mS_n, mS_i, mS_r, mS_l, mS_d, ne_eq, not_false_eq_true, not_true_eq_false, true_or, or_true, and_true, true_and, if_true, if_false, ite_true, ite_false, reduceIte, Nat.reduceAdd, Nat.reduceLeDiff, Nat.reduceEqDiff, false_and, and_false, or_false, false_or, eq_self, reduceCtorEq, mi_316, mi_317, ml_317, mi_318, ml_318, mi_319, ml_319, mi_320, ml_320, mi_321, ml_321, mi_322, ml_322, mi_359, ml_359, mv_316_1, mv_316_4, mv_316_7, mv_316_8, mv_316_9, mv_316_10, mv_316_13, mv_316_14, mv_316_15, pi_0, pi_1, pl_1, pv_1, pi_2, pl_2, pv_2, pi_3, pl_3, pv_3, pi_4, pl_4, pv_4, pi_5, pl_5, pv_5, pi_6, pl_6, pv_10, pi_7, pl_7, pv_11, pi_8, pl_8, pv_12, pi_9, pl_9, pv_13, pi_10, pl_10, pv_14, pi_11, pl_11, pv_15, pv_20, wi_0, wi_1, wl_1, wv_14, wi_2, wl_2, wv_15, wi_3, wl_3, wv_16, wi_4, wl_4, wv_17, wi_5, wl_5, wv_18, wv_21, pt_P, pt_v, pt_w, pt_SI, pt_SL, kM_SI, kM_SL, lI_SL, lV_SL, lK_SL, lN_SL, lL_SL, lIs_SL, nI_SI, nV_SI, nK_SI, nN_SI, nL_SI, nIs_SI, pp_c, pp_l, pp_r, pp_k, pp_k0, pp_j, pp_j0, isl]
    · rw [hB] at rb
      obtain ⟨H3, e3, m3, hj3, f3⟩ := rb
      have eP : pTour X.1 i b = (j, some (c, ((66, i + 1, 0) :: e) ++ [(4, i + 1, 0)])) := by
        unfold pTour evE
        rw [sq_ss (tk0 b) (sq_ss (nm0 _) (show pBlock X.1 8 (i + 2) (b + 0 + 0) = (j, some (c, e)) from hB))]
        rfl
      rw [eP]
      obtain ⟨l1, l2, l3, l4, l5, hk3, _⟩ := pS_k m3
      have F : Fr [p, p + 2, p + 4] h H3 := Fr_trans f1 (Fr_trans f2 f3)
      have mT := tS_pS mt m3 F
      have er : mI H3 p 18 = (evs X s2 e).1 := m3.2.2.2.2.2.2.2.2.2.2.2.2.2.2.2.1
      have n33 : mI H3 p 9 = Int32.ofNat X.2.2.2.2.2.2.2.2.2.1 := m3.2.2.2.2.2.2.2.2.2.2.2.2.1
      have be := be_block (k := X.1) 8 _ _ _ _ _ hB
      have eE : evTs (X, s, td, tp, tt, wo, ki, ne) (((66, i + 1, 0) :: e) ++ [(4, i + 1, 0)]) = (if (evs X s2 e).1 = 0 then (adT (X.2.2.2.1 (i + 1)) X, evs X s2 e, td, tp, fun q => if q = X.2.2.2.2.2.2.2.2.2.1 then Int32.ofNat (i + 1 + 1) else tt q, wo, ki, ne) else (X, evs X s2 e, td, tp, tt, wo, ki, ne)) := by
        rw [evTs_app, ← hs2]
        show evTs (evTs (X, sNw X s (i + 1) (fnL X.2.2.2.2.2.2.1 (X.2.2.2.1 (i + 1)) X.2.2.2.2.2.2.2.2.2.1 0) (decide (X.2.2.2.2.2.2.2.2.2.1 = 6)), td, tp, tt, wo, ki, ne) e) _ = _
        rw [evTs_blk be]
        rfl
      show ∃ H, _ ∧ tS H p j (evTs (X, s, td, tp, tt, wo, ki, ne) (((66, i + 1, 0) :: e) ++ [(4, i + 1, 0)])) ∧ i < j ∧ FT p (j - i) h H
      rw [eE]
      by_cases c : (evs X s2 e).1 = 0
      · rw [if_pos c]
        have er' : mI H3 p 18 = 0 := er.trans c
        have c2 := evs_1 c
        rw [← hs2] at c2
        have nr6 : X.2.2.2.2.2.2.2.2.2.1 < 6 := by
          have := of_decide_eq_false (sNw_1 c2).2
          omega
        have eI : Int32.ofNat (i + 1 + 1) - 1 = Int32.ofNat (i + 1) := by rw [show (1 : Int32) = Int32.ofNat 1 from rfl, i_subof (by omega)]; rfl
        have hj : mIn (Int32.ofNat (i + 1)) 402 = true := i_in (by rw [i_of_i (by omega)]; omega) (by rw [i_of_i (by omega)]; omega)
        have en : (Int32.ofNat (i + 1)).toNatClampNeg = i + 1 := i_of_n (by omega)
        have hjr : mIn (Int32.ofNat X.2.2.2.2.2.2.2.2.2.1) 6 = true := i_in (by rw [i_of_i (by omega)]; omega) (by rw [i_of_i (by omega)]; omega)
        have enr : (Int32.ofNat X.2.2.2.2.2.2.2.2.2.1).toNatClampNeg = X.2.2.2.2.2.2.2.2.2.1 := i_of_n (by omega)
        have ew : mL H3 (p + 5) = X.2.2.2.1 := m3.2.2.2.2.2.2.1
        refine ⟨mSI (mSI (mSL H3 (p + 8) X.2.2.2.2.2.2.2.2.2.1 (X.2.2.2.1 (i + 1))) (p + 11) X.2.2.2.2.2.2.2.2.2.1 (Int32.ofNat (i + 1 + 1))) p 9 (Int32.ofNat (X.2.2.2.2.2.2.2.2.2.1 + 1)), ?_, ⟨pS_adT m3 nr6, ?_, ?_, ?_⟩, by omega, FT_mono (FT_SI (FT_SI (FT_SL (FT_Fr F) (by omega)) (by omega)) (by omega)) (by omega)⟩
        · simp (maxDischargeDepth := 60) only [hk, x_122_0, x_122_1, x_122_1i, x_122_2, x_122_5, x_122_6, x_122_7, x_122_10, x_122_11, x_122_12, x_122_15, x_122_16, x_122_19, x_122_21, x_122_24, x_122_27, x_122_28, x_122_29, x_122_30, x_122_33, x_122_34, x_122_35, x_122_38, x_122_41, x_122_42, x_122_43, x_122_44, x_122_47, x_122_50, x_122_51, x_122_52, x_122_53, x_122_56, x_122_57, x_122_60, x_122_61, x_122_64, x_122_65, x_122_66, x_122_67, x_122_68, x_122_69, x_122_70, x_122_73, x_122_74, x_122_77, x_122_78, x_122_79, x_122_80, x_122_80i, x_122_81, x_122_84, x_122_85, x_122_86, x_122_89, x_122_90, c_122, hp, k4, i_succ, hk1, n3, e2, m2.1, n10, l42, e3, hk3, er', n33, l4, eI, hj, en, hjr, enr, ew, kM_SL, z1, Option.bind_some, mAft_n, mAft_v, mAft_x, mS_n, mS_i, mS_r, mS_l, mS_d, ne_eq, not_false_eq_true, not_true_eq_false, true_or, or_true, and_true, true_and, if_true, if_false, ite_true, ite_false, reduceIte, Nat.reduceAdd, Nat.reduceLeDiff, Nat.reduceEqDiff, false_and, and_false, or_false, false_or, eq_self, reduceCtorEq, mi_316, mi_317, ml_317, mi_318, ml_318, mi_319, ml_319, mi_320, ml_320, mi_321, ml_321, mi_322, ml_322, mi_359, ml_359, mv_316_1, mv_316_4, mv_316_7, mv_316_8, mv_316_9, mv_316_10, mv_316_13, mv_316_14, mv_316_15, pi_0, pi_1, pl_1, pv_1, pi_2, pl_2, pv_2, pi_3, pl_3, pv_3, pi_4, pl_4, pv_4, pi_5, pl_5, pv_5, pi_6, pl_6, pv_10, pi_7, pl_7, pv_11, pi_8, pl_8, pv_12, pi_9, pl_9, pv_13, pi_10, pl_10, pv_14, pi_11, pl_11, pv_15, pv_20, wi_0, wi_1, wl_1, wv_14, wi_2, wl_2, wv_15, wi_3, wl_3, wv_16, wi_4, wl_4, wv_17, wi_5, wl_5, wv_18, wv_21, pt_P, pt_v, pt_w, pt_SI, pt_SL, kM_SI, kM_SL, lI_SL, lV_SL, lK_SL, lN_SL, lL_SL, lIs_SL, nI_SI, nV_SI, nK_SI, nN_SI, nL_SI, nIs_SI, pp_c, pp_l, pp_r, pp_k, pp_k0, pp_j, pp_j0, isl]
        · funext q
          rw [nI_SI, if_neg (by omega), nI_SI, if_neg (by omega)]
          exact congrFun mT.2.1 q
        · funext q
          rw [nI_SI, if_neg (by omega), nI_SI, if_neg (by omega)]
          exact congrFun mT.2.2.1 q
        · funext q
          rw [nI_SI, if_neg (by omega), nI_SI]
          by_cases z : q = X.2.2.2.2.2.2.2.2.2.1
          · simp only [z, and_self, if_true]
          · simp only [z, and_false, if_false]
            exact congrFun mT.2.2.2 q
      · rw [if_neg c]
        have er' : ¬ mI H3 p 18 = 0 := by rw [er]; exact c
        refine ⟨H3, ?_, mT, by omega, FT_mono (FT_Fr F) (by omega)⟩
        simp (maxDischargeDepth := 60) only [hk, x_122_0, x_122_1, x_122_1i, x_122_2, x_122_5, x_122_6, x_122_7, x_122_10, x_122_11, x_122_12, x_122_15, x_122_16, x_122_19, x_122_21, x_122_24, x_122_27, x_122_28, x_122_29, x_122_30, x_122_33, x_122_34, x_122_35, x_122_38, x_122_41, x_122_42, x_122_43, x_122_44, x_122_47, x_122_50, x_122_51, x_122_52, x_122_53, x_122_56, x_122_57, x_122_60, x_122_61, x_122_64, x_122_65, x_122_66, x_122_67, x_122_68, x_122_69, x_122_70, x_122_73, x_122_74, x_122_77, x_122_78, x_122_79, x_122_80, x_122_80i, x_122_81, x_122_84, x_122_85, x_122_86, x_122_89, x_122_90, c_122, hp, k4, i_succ, hk1, n3, e2, m2.1, n10, l42, e3, hk3, er', z1, Option.bind_some, mAft_n, mAft_v, mAft_x, mS_n, mS_i, mS_r, mS_l, mS_d, ne_eq, not_false_eq_true, not_true_eq_false, true_or, or_true, and_true, true_and, if_true, if_false, ite_true, ite_false, reduceIte, Nat.reduceAdd, Nat.reduceLeDiff, Nat.reduceEqDiff, false_and, and_false, or_false, false_or, eq_self, reduceCtorEq, mi_316, mi_317, ml_317, mi_318, ml_318, mi_319, ml_319, mi_320, ml_320, mi_321, ml_321, mi_322, ml_322, mi_359, ml_359, mv_316_1, mv_316_4, mv_316_7, mv_316_8, mv_316_9, mv_316_10, mv_316_13, mv_316_14, mv_316_15, pi_0, pi_1, pl_1, pv_1, pi_2, pl_2, pv_2, pi_3, pl_3, pv_3, pi_4, pl_4, pv_4, pi_5, pl_5, pv_5, pi_6, pl_6, pv_10, pi_7, pl_7, pv_11, pi_8, pl_8, pv_12, pi_9, pl_9, pv_13, pi_10, pl_10, pv_14, pi_11, pl_11, pv_15, pv_20, wi_0, wi_1, wl_1, wv_14, wi_2, wl_2, wv_15, wi_3, wl_3, wv_16, wi_4, wl_4, wv_17, wi_5, wl_5, wv_18, wv_21, pt_P, pt_v, pt_w, pt_SI, pt_SL, kM_SI, kM_SL, lI_SL, lV_SL, lK_SL, lN_SL, lL_SL, lIs_SL, nI_SI, nV_SI, nK_SI, nN_SI, nL_SI, nIs_SI, pp_c, pp_l, pp_r, pp_k, pp_k0, pp_j, pp_j0, isl]
  · obtain ⟨H2, e2, e4, e5, e6, e7⟩ := new.2 g
    have nm0 : ∀ b, nmk X.1 29 66 (i + 1) b = (i + 1, none) := fun b => by unfold nmk; rw [if_neg g]
    have eP : pTour X.1 i b = (i + 1, none) := by
      unfold pTour evE
      rw [sq_sn (tk0 b) (sq_n (nm0 _))]
    rw [eP]
    refine ⟨H2, ?_, e4, e5, e6, FT_mono (FT_Fr (Fr_trans f1 e7)) (by omega)⟩
    simp (maxDischargeDepth := 60) only [hk, x_122_0, x_122_1, x_122_1i, x_122_2, x_122_5, x_122_6, x_122_7, x_122_10, x_122_11, x_122_12, x_122_15, x_122_16, x_122_19, x_122_21, x_122_24, x_122_27, x_122_28, x_122_29, x_122_30, x_122_33, x_122_34, x_122_35, x_122_38, x_122_41, x_122_42, x_122_43, x_122_44, x_122_47, x_122_50, x_122_51, x_122_52, x_122_53, x_122_56, x_122_57, x_122_60, x_122_61, x_122_64, x_122_65, x_122_66, x_122_67, x_122_68, x_122_69, x_122_70, x_122_73, x_122_74, x_122_77, x_122_78, x_122_79, x_122_80, x_122_80i, x_122_81, x_122_84, x_122_85, x_122_86, x_122_89, x_122_90, c_122, hp, k4, i_succ, hk1, n3, e2, z0, Option.bind_some, mAft_n, mAft_v, mAft_x, mS_n, mS_i, mS_r, mS_l, mS_d, ne_eq, not_false_eq_true, not_true_eq_false, true_or, or_true, and_true, true_and, if_true, if_false, ite_true, ite_false, reduceIte, Nat.reduceAdd, Nat.reduceLeDiff, Nat.reduceEqDiff, false_and, and_false, or_false, false_or, eq_self, reduceCtorEq, mi_316, mi_317, ml_317, mi_318, ml_318, mi_319, ml_319, mi_320, ml_320, mi_321, ml_321, mi_322, ml_322, mi_359, ml_359, mv_316_1, mv_316_4, mv_316_7, mv_316_8, mv_316_9, mv_316_10, mv_316_13, mv_316_14, mv_316_15, pi_0, pi_1, pl_1, pv_1, pi_2, pl_2, pv_2, pi_3, pl_3, pv_3, pi_4, pl_4, pv_4, pi_5, pl_5, pv_5, pi_6, pl_6, pv_10, pi_7, pl_7, pv_11, pi_8, pl_8, pv_12, pi_9, pl_9, pv_13, pi_10, pl_10, pv_14, pi_11, pl_11, pv_15, pv_20, wi_0, wi_1, wl_1, wv_14, wi_2, wl_2, wv_15, wi_3, wl_3, wv_16, wi_4, wl_4, wv_17, wi_5, wl_5, wv_18, wv_21, pt_P, pt_v, pt_w, pt_SI, pt_SL, kM_SI, kM_SL, lI_SL, lV_SL, lK_SL, lN_SL, lL_SL, lIs_SL, nI_SI, nV_SI, nK_SI, nN_SI, nL_SI, nIs_SI, pp_c, pp_l, pp_r, pp_k, pp_k0, pp_j, pp_j0, isl]
