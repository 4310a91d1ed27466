/-! THE REFERENCE'S PARSER: A ROOM, A TOUR -/
theorem FT_SI {p c q k : Nat} {x : Int32} {h H : mH} (f : FT p c h H) (hq : p ≤ q ∧ q ≤ p + 11) : FT p c h (mSI H q k x) := by
  obtain ⟨a1, a2, a3, a4, a5, a6, a7⟩ := f
  refine ⟨fun a j h1 h2 => ?_, a2, a3, a4, a5, a6, a7⟩
  rw [nI_SI, if_neg (by intro z; exact h2 (by rw [z.1]; exact hq))]
  exact a1 a j h1 h2
theorem FT_SL {p c q k : Nat} {x : Int64} {h H : mH} (f : FT p c h H) (hq : p ≤ q ∧ q ≤ p + 11) : FT p c h (mSL H q k x) := by
  obtain ⟨a1, a2, a3, a4, a5, a6, a7⟩ := f
  refine ⟨fun a j h1 h2 => ⟨(a1 a j h1 h2).1, ?_⟩, a2, a3, a4, a5, a6, a7⟩
  show (if a = q ∧ j = k then x else mL H a j) = _
  rw [if_neg (by intro z; exact h2 (by rw [z.1]; exact hq))]
  exact (a1 a j h1 h2).2
theorem pS_adR {X : PX} {p i d : Nat} {s : RS} {h : mH} {w : Int64} (m : pS h p X i d s) (hr : X.2.2.2.2.2.2.2.1 < 12) : pS (mSI (mSL h (p + 6) X.2.2.2.2.2.2.2.1 w) p 6 (Int32.ofNat (X.2.2.2.2.2.2.2.1 + 1))) p (adR w X) i d s := by
  obtain ⟨k, n, f, wd, rs, ps, ts, nr, np, nt, nd⟩ := X
  obtain ⟨hk, hp, hX, hi, w1, w2, w3, w4, w5, w6, n1, n2, n3, a1, a2, a3, a4, a5, a6, a7⟩ := m
  obtain ⟨x1, x2, x3, x4, x5, x6, x7, x8⟩ := hX
  unfold adR
  dsimp only at *
  have L : ∀ q k, (q = p + 6 → False) → mL (mSI (mSL h (p + 6) nr w) p 6 (Int32.ofNat (nr + 1))) q k = mL h q k := by
    intro q k hq
    show (if q = p + 6 ∧ k = nr then w else mL h q k) = _
    rw [if_neg (fun z => hq z.1)]
  have I : ∀ q k, ¬ (q = p ∧ k = 6) → mI (mSI (mSL h (p + 6) nr w) p 6 (Int32.ofNat (nr + 1))) q k = mI h q k := by
    intro q k hq
    show (if q = p ∧ k = 6 then _ else mI h q k) = _
    rw [if_neg hq]
  refine ⟨by rw [kM_SI, kM_SL]; exact hk, hp, ⟨x1, x2, x3, x4, x5, Nat.succ_le_of_lt hr, x7, x8⟩, hi, ?_, ?_, ?_, ?_, ?_, ?_, ?_, ?_, ?_, ?_, ?_, ?_, ?_, ?_, ?_, ?_⟩
  · intro j hj; rw [I _ _ (by omega)]; exact w1 j hj
  · funext q; rw [I _ _ (by omega), w2]
  · funext q; rw [L _ _ (by omega), w3]
  · funext q
    show (if p + 6 = p + 6 ∧ q = nr then w else mL h (p + 6) q) = if q = nr then w else rs q
    rw [w4]
    by_cases z : q = nr <;> simp [z]
  · funext q; rw [L _ _ (by omega), w5]
  · funext q; rw [L _ _ (by omega), w6]
  · rw [nI_SI, if_pos ⟨rfl, rfl⟩]
  · rw [I _ _ (by omega), n2]
  · rw [I _ _ (by omega), n3]
  · rw [I _ _ (by omega), a1]
  · rw [I _ _ (by omega), a2]
  · rw [I _ _ (by omega), a3]
  · rw [I _ _ (by omega), a4]
  · funext q; rw [I _ _ (by omega), a5]
  · funext q; rw [I _ _ (by omega), a6]
  · rw [I _ _ (by omega), a7]
theorem r_room {D p i b : Nat} {Q : TS} {h : mH} (m : tS h p i Q) (h0 : Q.1.1 i = 0) : RH p i Q h (mCall (D + 4) 106 [.ref p] h) (pRoom Q.1.1 i b) := by
  obtain ⟨X, s, td, tp, tt, wo, ki, ne⟩ := Q
  have z0 : (0 : Int32) = 0 ∨ (0 : Int32) = 1 := Or.inl rfl
  have z1 : (1 : Int32) = 0 ∨ (1 : Int32) = 1 := Or.inr rfl
  have n10 : ¬ (1 : Int32) = 0 := by decide
  have mt := m
  obtain ⟨m, t1, t2, t3⟩ := m
  dsimp only at m t1 t2 t3 h0
  obtain ⟨k1, k2, k3, k4, k5, hk, hp⟩ := pS_k m
  obtain ⟨m1, f1⟩ := q_adv m (by omega)
  have hk1 := m1.1
  have n1 : mI h p 6 = Int32.ofNat X.2.2.2.2.2.2.2.1 := m.2.2.2.2.2.2.2.2.2.2.1
  have w4 := m1.2.2.2.2.2.2.2.1
  have cap := m1.2.2.1.2.2.2.2.2.1
  have new := q_new (D := D) (t := p + 6) (n := X.2.2.2.2.2.2.2.1) (most := 12) m1 (pi_6 hk1 hp) (by rw [pl_6 hk1 hp]; exact cap) (by rw [pl_6 hk1 hp]; decide) w4 (by decide) 12 rfl
  have tk0 : ∀ b, tk X.1 0 i b = (i + 1, some ([], [])) := fun b => by unfold tk; rw [if_pos h0]
  show RH p i _ h _ (pRoom X.1 i b)
  by_cases g : X.1 (i + 1) = 29
  · obtain ⟨H2, e2, m2, f2⟩ := new.1 g
    have nm0 : ∀ b, nmk X.1 29 60 (i + 1) b = (i + 2, some ([], [(60, i + 1, 0)])) := fun b => by unfold nmk; rw [if_pos g]
    have eat := q_eat (D := D + 1) m2 37 (by decide) (show (59 : Int32) = kap 37 by decide)
    by_cases g3 : X.1 (i + 1 + 1) = 37
    · obtain ⟨H3, e3, m3, f3⟩ := eat.1 g3
      have tk3 : ∀ b, tk X.1 37 (i + 2) b = (i + 3, some ([], [])) := fun b => by unfold tk; rw [if_pos g3]
      have eP : pRoom X.1 i b = (i + 3, some ([], [(60, i + 1, 0), (1, i + 1, 0)])) := by
        unfold pRoom evE
        rw [sq_ss (tk0 b) (sq_ss (nm0 _) (tk3 _))]
        rfl
      rw [eP]
      obtain ⟨l1, l2, l3, l4, l5, hk3, _⟩ := pS_k m3
      have F : Fr [p, p + 2, p + 4] h H3 := Fr_trans f1 (Fr_trans f2 f3)
      have mT := tS_pS mt m3 F
      have er : mI H3 p 18 = (sNw X s (i + 1) (fnL X.2.2.2.2.1 (X.2.2.2.1 (i + 1)) X.2.2.2.2.2.2.2.1 0) (decide (X.2.2.2.2.2.2.2.1 = 12))).1 := m3.2.2.2.2.2.2.2.2.2.2.2.2.2.2.2.1
      have n13 : mI H3 p 6 = Int32.ofNat X.2.2.2.2.2.2.2.1 := m3.2.2.2.2.2.2.2.2.2.2.1
      have eE : evTs (X, s, td, tp, tt, wo, ki, ne) [(60, i + 1, 0), (1, i + 1, 0)] = (if (sNw X s (i + 1) (fnL X.2.2.2.2.1 (X.2.2.2.1 (i + 1)) X.2.2.2.2.2.2.2.1 0) (decide (X.2.2.2.2.2.2.2.1 = 12))).1 = 0 then (adR (X.2.2.2.1 (i + 1)) X, sNw X s (i + 1) (fnL X.2.2.2.2.1 (X.2.2.2.1 (i + 1)) X.2.2.2.2.2.2.2.1 0) (decide (X.2.2.2.2.2.2.2.1 = 12)), td, tp, tt, wo, ki, ne) else (X, sNw X s (i + 1) (fnL X.2.2.2.2.1 (X.2.2.2.1 (i + 1)) X.2.2.2.2.2.2.2.1 0) (decide (X.2.2.2.2.2.2.2.1 = 12)), td, tp, tt, wo, ki, ne)) := rfl
      generalize hs2 : sNw X s (i + 1) (fnL X.2.2.2.2.1 (X.2.2.2.1 (i + 1)) X.2.2.2.2.2.2.2.1 0) (decide (X.2.2.2.2.2.2.2.1 = 12)) = s2 at *
      show ∃ H, _ ∧ tS H p (i + 3) (evTs (X, s, td, tp, tt, wo, ki, ne) [(60, i + 1, 0), (1, i + 1, 0)]) ∧ i < i + 3 ∧ FT p (i + 3 - i) h H
      rw [eE]
      by_cases c : s2.1 = 0
      · rw [if_pos c]
        have er' : mI H3 p 18 = 0 := er.trans c
        have nr12 : X.2.2.2.2.2.2.2.1 < 12 := by
          rcases Nat.lt_or_ge X.2.2.2.2.2.2.2.1 12 with z | z
          · exact z
          · exfalso
            have z12 : X.2.2.2.2.2.2.2.1 = 12 := by omega
            rw [← hs2] at c
            unfold sNw at c
            generalize hq : sMn X s (i + 1) (!decide (fnL X.2.2.2.2.1 (X.2.2.2.1 (i + 1)) X.2.2.2.2.2.2.2.1 0 = -1)) 2 = s1 at c
            unfold sMn at c
            rw [decide_eq_true z12] at c
            by_cases y : s1.1 = 0
            · rw [if_pos ⟨rfl, y⟩] at c; exact absurd (show (4 : Int32) = 0 from c) (by decide)
            · rw [if_neg (fun q => y q.2)] at c; exact y c
        have eI : Int32.ofNat (i + 1 + 1 + 1) - 2 = Int32.ofNat (i + 1) := by rw [show (2 : Int32) = Int32.ofNat 2 from rfl, i_subof (by omega)]; rfl
        have hj : mIn (Int32.ofNat (i + 1)) 402 = true := i_in (by rw [i_of_i (by omega)]; omega) (by rw [i_of_i (by omega)]; omega)
        have en : (Int32.ofNat (i + 1)).toNatClampNeg = i + 1 := i_of_n (by omega)
        have hjr : mIn (Int32.ofNat X.2.2.2.2.2.2.2.1) 12 = true := i_in (by rw [i_of_i (by omega)]; omega) (by rw [i_of_i (by omega)]; omega)
        have enr : (Int32.ofNat X.2.2.2.2.2.2.2.1).toNatClampNeg = X.2.2.2.2.2.2.2.1 := i_of_n (by omega)
        have ew : mL H3 (p + 5) = X.2.2.2.1 := m3.2.2.2.2.2.2.1
        refine ⟨mSI (mSL H3 (p + 6) X.2.2.2.2.2.2.2.1 (X.2.2.2.1 (i + 1))) p 6 (Int32.ofNat (X.2.2.2.2.2.2.2.1 + 1)), ?_, ⟨pS_adR m3 nr12, ?_, ?_, ?_⟩, by omega, FT_mono (FT_SI (FT_SL (FT_Fr F) (by omega)) (by omega)) (by omega)⟩
        · simp (maxDischargeDepth := 60) only [hk, x_106_0, x_106_1, x_106_1i, x_106_2, x_106_5, x_106_6, x_106_7, x_106_10, x_106_11, x_106_12, x_106_15, x_106_16, x_106_19, x_106_21, x_106_24, x_106_27, x_106_28, x_106_30, x_106_33, x_106_36, x_106_37, x_106_38, x_106_39, x_106_42, x_106_45, x_106_46, x_106_47, x_106_48, x_106_51, x_106_52, x_106_55, x_106_56, x_106_59, x_106_60, x_106_63, x_106_64, x_106_65, x_106_66, x_106_67, x_106_68, x_106_68i, x_106_69, x_106_72, x_106_73, x_106_74, x_106_77, x_106_78, c_106, hp, k4, i_succ, hk1, n1, e2, m2.1, n10, e3, hk3, er', n13, l4, eI, hj, en, hjr, enr, ew, kM_SL, z1, Option.bind_some, mAft_n, mAft_v, mAft_x, mS_n, mS_i, mS_r, mS_l, mS_d, ne_eq, not_false_eq_true, not_true_eq_false, true_or, or_true, and_true, true_and, if_true, if_false, ite_true, ite_false, reduceIte, Nat.reduceAdd, Nat.reduceLeDiff, Nat.reduceEqDiff, false_and, and_false, or_false, false_or, eq_self, reduceCtorEq, mi_316, mi_317, ml_317, mi_318, ml_318, mi_319, ml_319, mi_320, ml_320, mi_321, ml_321, mi_322, ml_322, mi_359, ml_359, mv_316_1, mv_316_4, mv_316_7, mv_316_8, mv_316_9, mv_316_10, mv_316_13, mv_316_14, mv_316_15, pi_0, pi_1, pl_1, pv_1, pi_2, pl_2, pv_2, pi_3, pl_3, pv_3, pi_4, pl_4, pv_4, pi_5, pl_5, pv_5, pi_6, pl_6, pv_10, pi_7, pl_7, pv_11, pi_8, pl_8, pv_12, pi_9, pl_9, pv_13, pi_10, pl_10, pv_14, pi_11, pl_11, pv_15, pv_20, wi_0, wi_1, wl_1, wv_14, wi_2, wl_2, wv_15, wi_3, wl_3, wv_16, wi_4, wl_4, wv_17, wi_5, wl_5, wv_18, wv_21, pt_P, pt_v, pt_w, pt_SI, pt_SL, kM_SI, kM_SL, lI_SL, lV_SL, lK_SL, lN_SL, lL_SL, lIs_SL, nI_SI, nV_SI, nK_SI, nN_SI, nL_SI, nIs_SI, pp_c, pp_l, pp_r, pp_k, pp_k0, pp_j, pp_j0, isl]
        · funext q
          rw [nI_SI, if_neg (by omega), show mI (mSL H3 (p + 6) X.2.2.2.2.2.2.2.1 (X.2.2.2.1 (i + 1))) = mI H3 from rfl]
          exact congrFun mT.2.1 q
        · funext q
          rw [nI_SI, if_neg (by omega), show mI (mSL H3 (p + 6) X.2.2.2.2.2.2.2.1 (X.2.2.2.1 (i + 1))) = mI H3 from rfl]
          exact congrFun mT.2.2.1 q
        · funext q
          rw [nI_SI, if_neg (by omega), show mI (mSL H3 (p + 6) X.2.2.2.2.2.2.2.1 (X.2.2.2.1 (i + 1))) = mI H3 from rfl]
          exact congrFun mT.2.2.2 q
      · rw [if_neg c]
        have er' : ¬ mI H3 p 18 = 0 := by rw [er]; exact c
        refine ⟨H3, ?_, mT, by omega, FT_mono (FT_Fr F) (by omega)⟩
        simp (maxDischargeDepth := 60) only [hk, x_106_0, x_106_1, x_106_1i, x_106_2, x_106_5, x_106_6, x_106_7, x_106_10, x_106_11, x_106_12, x_106_15, x_106_16, x_106_19, x_106_21, x_106_24, x_106_27, x_106_28, x_106_30, x_106_33, x_106_36, x_106_37, x_106_38, x_106_39, x_106_42, x_106_45, x_106_46, x_106_47, x_106_48, x_106_51, x_106_52, x_106_55, x_106_56, x_106_59, x_106_60, x_106_63, x_106_64, x_106_65, x_106_66, x_106_67, x_106_68, x_106_68i, x_106_69, x_106_72, x_106_73, x_106_74, x_106_77, x_106_78, c_106, hp, k4, i_succ, hk1, n1, e2, m2.1, n10, e3, hk3, er', z1, Option.bind_some, mAft_n, mAft_v, mAft_x, mS_n, mS_i, mS_r, mS_l, mS_d, ne_eq, not_false_eq_true, not_true_eq_false, true_or, or_true, and_true, true_and, if_true, if_false, ite_true, ite_false, reduceIte, Nat.reduceAdd, Nat.reduceLeDiff, Nat.reduceEqDiff, false_and, and_false, or_false, false_or, eq_self, reduceCtorEq, mi_316, mi_317, ml_317, mi_318, ml_318, mi_319, ml_319, mi_320, ml_320, mi_321, ml_321, mi_322, ml_322, mi_359, ml_359, mv_316_1, mv_316_4, mv_316_7, mv_316_8, mv_316_9, mv_316_10, mv_316_13, mv_316_14, mv_316_15, pi_0, pi_1, pl_1, pv_1, pi_2, pl_2, pv_2, pi_3, pl_3, pv_3, pi_4, pl_4, pv_4, pi_5, pl_5, pv_5, pi_6, pl_6, pv_10, pi_7, pl_7, pv_11, pi_8, pl_8, pv_12, pi_9, pl_9, pv_13, pi_10, pl_10, pv_14, pi_11, pl_11, pv_15, pv_20, wi_0, wi_1, wl_1, wv_14, wi_2, wl_2, wv_15, wi_3, wl_3, wv_16, wi_4, wl_4, wv_17, wi_5, wl_5, wv_18, wv_21, pt_P, pt_v, pt_w, pt_SI, pt_SL, kM_SI, kM_SL, lI_SL, lV_SL, lK_SL, lN_SL, lL_SL, lIs_SL, nI_SI, nV_SI, nK_SI, nN_SI, nL_SI, nIs_SI, pp_c, pp_l, pp_r, pp_k, pp_k0, pp_j, pp_j0, isl]
    · obtain ⟨H3, e3, e4, e5, e6, e7⟩ := eat.2 g3
      have tk3 : ∀ b, tk X.1 37 (i + 2) b = (i + 2, none) := fun b => by unfold tk; rw [if_neg g3]
      have eP : pRoom X.1 i b = (i + 2, none) := by
        unfold pRoom evE
        rw [sq_sn (tk0 b) (sq_sn (nm0 _) (tk3 _))]
      rw [eP]
      refine ⟨H3, ?_, e4, e5, e6, FT_mono (FT_Fr (Fr_trans f1 (Fr_trans f2 e7))) (by omega)⟩
      simp (maxDischargeDepth := 60) only [hk, x_106_0, x_106_1, x_106_1i, x_106_2, x_106_5, x_106_6, x_106_7, x_106_10, x_106_11, x_106_12, x_106_15, x_106_16, x_106_19, x_106_21, x_106_24, x_106_27, x_106_28, x_106_30, x_106_33, x_106_36, x_106_37, x_106_38, x_106_39, x_106_42, x_106_45, x_106_46, x_106_47, x_106_48, x_106_51, x_106_52, x_106_55, x_106_56, x_106_59, x_106_60, x_106_63, x_106_64, x_106_65, x_106_66, x_106_67, x_106_68, x_106_68i, x_106_69, x_106_72, x_106_73, x_106_74, x_106_77, x_106_78, c_106, hp, k4, i_succ, hk1, n1, e2, m2.1, n10, e3, z0, Option.bind_some, mAft_n, mAft_v, mAft_x, mS_n, mS_i, mS_r, mS_l, mS_d, ne_eq, not_false_eq_true, not_true_eq_false, true_or, or_true, and_true, true_and, if_true, if_false, ite_true, ite_false, reduceIte, Nat.reduceAdd, Nat.reduceLeDiff, Nat.reduceEqDiff, false_and, and_false, or_false, false_or, eq_self, reduceCtorEq, mi_316, mi_317, ml_317, mi_318, ml_318, mi_319, ml_319, mi_320, ml_320, mi_321, ml_321, mi_322, ml_322, mi_359, ml_359, mv_316_1, mv_316_4, mv_316_7, mv_316_8, mv_316_9, mv_316_10, mv_316_13, mv_316_14, mv_316_15, pi_0, pi_1, pl_1, pv_1, pi_2, pl_2, pv_2, pi_3, pl_3, pv_3, pi_4, pl_4, pv_4, pi_5, pl_5, pv_5, pi_6, pl_6, pv_10, pi_7, pl_7, pv_11, pi_8, pl_8, pv_12, pi_9, pl_9, pv_13, pi_10, pl_10, pv_14, pi_11, pl_11, pv_15, pv_20, wi_0, wi_1, wl_1, wv_14, wi_2, wl_2, wv_15, wi_3, wl_3, wv_16, wi_4, wl_4, wv_17, wi_5, wl_5, wv_18, wv_21, pt_P, pt_v, pt_w, pt_SI, pt_SL, kM_SI, kM_SL, lI_SL, lV_SL, lK_SL, lN_SL, lL_SL, lIs_SL, nI_SI, nV_SI, nK_SI, nN_SI, nL_SI, nIs_SI, pp_c, pp_l, pp_r, pp_k, pp_k0, pp_j, pp_j0, isl]
  · obtain ⟨H2, e2, e4, e5, e6, e7⟩ := new.2 g
    have nm0 : ∀ b, nmk X.1 29 60 (i + 1) b = (i + 1, none) := fun b => by unfold nmk; rw [if_neg g]
    have eP : pRoom X.1 i b = (i + 1, none) := by
      unfold pRoom evE
      rw [sq_sn (tk0 b) (sq_n (nm0 _))]
    rw [eP]
    refine ⟨H2, ?_, e4, e5, e6, FT_mono (FT_Fr (Fr_trans f1 e7)) (by omega)⟩
    simp (maxDischargeDepth := 60) only [hk, x_106_0, x_106_1, x_106_1i, x_106_2, x_106_5, x_106_6, x_106_7, x_106_10, x_106_11, x_106_12, x_106_15, x_106_16, x_106_19, x_106_21, x_106_24, x_106_27, x_106_28, x_106_30, x_106_33, x_106_36, x_106_37, x_106_38, x_106_39, x_106_42, x_106_45, x_106_46, x_106_47, x_106_48, x_106_51, x_106_52, x_106_55, x_106_56, x_106_59, x_106_60, x_106_63, x_106_64, x_106_65, x_106_66, x_106_67, x_106_68, x_106_68i, x_106_69, x_106_72, x_106_73, x_106_74, x_106_77, x_106_78, c_106, hp, k4, i_succ, hk1, n1, e2, z0, Option.bind_some, mAft_n, mAft_v, mAft_x, mS_n, mS_i, mS_r, mS_l, mS_d, ne_eq, not_false_eq_true, not_true_eq_false, true_or, or_true, and_true, true_and, if_true, if_false, ite_true, ite_false, reduceIte, Nat.reduceAdd, Nat.reduceLeDiff, Nat.reduceEqDiff, false_and, and_false, or_false, false_or, eq_self, reduceCtorEq, mi_316, mi_317, ml_317, mi_318, ml_318, mi_319, ml_319, mi_320, ml_320, mi_321, ml_321, mi_322, ml_322, mi_359, ml_359, mv_316_1, mv_316_4, mv_316_7, mv_316_8, mv_316_9, mv_316_10, mv_316_13, mv_316_14, mv_316_15, pi_0, pi_1, pl_1, pv_1, pi_2, pl_2, pv_2, pi_3, pl_3, pv_3, pi_4, pl_4, pv_4, pi_5, pl_5, pv_5, pi_6, pl_6, pv_10, pi_7, pl_7, pv_11, pi_8, pl_8, pv_12, pi_9, pl_9, pv_13, pi_10, pl_10, pv_14, pi_11, pl_11, pv_15, pv_20, wi_0, wi_1, wl_1, wv_14, wi_2, wl_2, wv_15, wi_3, wl_3, wv_16, wi_4, wl_4, wv_17, wi_5, wl_5, wv_18, wv_21, pt_P, pt_v, pt_w, pt_SI, pt_SL, kM_SI, kM_SL, lI_SL, lV_SL, lK_SL, lN_SL, lL_SL, lIs_SL, nI_SI, nV_SI, nK_SI, nN_SI, nL_SI, nIs_SI, pp_c, pp_l, pp_r, pp_k, pp_k0, pp_j, pp_j0, isl]
