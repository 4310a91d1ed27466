/-! THE REFERENCE'S PARSER: A PART'S NEEDS -/
/-- at a token that is taken as it is: a name, and more -/
def pNd (k : Nat → Nat) (i0 : Nat) : Nat → PA
  | 0 => flp
  | n + 1 => fun i b => match nmk k 29 65 (i + 1) b with
    | (j, none) => (j, none)
    | (j, some (c, e)) => pre e (if k j = 38 then pNd k i0 n j b else pP1 k i0 j b)
theorem r_pNd {D p i0 A : Nat} {v0 v1 : Int32} : ∀ (n : Nat) {j b : Nat} {Q : TS} {G : mH}, (m : tS G p j Q) → (Q.1.1 j < 48) → (402 ≤ j + n) → (a : pA G A v0 v1 Q.2.2.2.2.2.1 Q.2.2.2.2.2.2.1 Q.2.2.2.2.2.2.2) → (hj0 : i0 + 3 < j) → (hv0 : Q.2.1.2.2.1 (i0 + 2) = v0) → (hv1 : Q.2.1.2.2.1 (i0 + 3) = v1) → (hnp : Q.2.1.1 = 0 → Q.1.2.2.2.2.2.2.2.2.1 < 16) →
    RH p j Q G (mExec (mCall (D + 3)) 110 134 [some (.ref p), some (.long (Q.1.2.2.2.1 i0)), none, some (.ref A)] [] G) (pNd Q.1.1 i0 n j b) := by
  intro n
  induction n with
  | zero =>
    intro j b Q G m _ hn
    have := (pS_k m.1).2.2.1
    omega
  | succ n ih =>
    intro j b Q G m h48 hn a hj0 hv0 hv1 hnp
    obtain ⟨X, s, td, tp, tt, wo, ki, ne⟩ := Q
    have z0 : (0 : Int32) = 0 ∨ (0 : Int32) = 1 := Or.inl rfl
    have z1 : (1 : Int32) = 0 ∨ (1 : Int32) = 1 := Or.inr rfl
    have n10 : ¬ (1 : Int32) = 0 := by decide
    have mt := m
    obtain ⟨m, t1, t2, t3⟩ := m
    dsimp only at m t1 t2 t3 a hv0 hv1 hnp h48
    obtain ⟨k1, k2, k3, k4, k5, hk, hp⟩ := pS_k m
    obtain ⟨m1, f1⟩ := q_adv m h48
    have hk1 := m1.1
    have n2 : mI G p 8 = Int32.ofNat X.2.2.2.2.2.2.2.2.1 := m.2.2.2.2.2.2.2.2.2.2.2.1
    have w5 := m1.2.2.2.2.2.2.2.2.1
    have cap := m1.2.2.1.2.2.2.2.2.2.1
    have old := q_old (D := D) (t := p + 7) (n := X.2.2.2.2.2.2.2.2.1) m1 (pi_7 hk1 hp) (by rw [pl_7 hk1 hp]; exact cap) (by rw [pl_7 hk1 hp]; decide) w5
    show RH p j _ G (mExec (mCall (D + 3)) 110 134 [some (.ref p), some (.long (X.2.2.2.1 i0)), none, some (.ref A)] [] G) (match nmk X.1 29 65 (j + 1) b with
      | (j, none) => (j, none)
      | (j, some (c, e)) => pre e (if X.1 j = 38 then pNd X.1 i0 n j b else pP1 X.1 i0 j b))
    by_cases g : X.1 (j + 1) = 29
    case neg =>
      obtain ⟨H, e, e1, e2, e3, e4⟩ := old.2 g
      rw [show nmk X.1 29 65 (j + 1) b = (j + 1, none) by unfold nmk; rw [if_neg g]]
      refine ⟨H, ?_, e1, e2, e3, FT_mono (FT_Fr (Fr_trans f1 e4)) (by omega)⟩
      rw [x_110_134]
      simp (maxDischargeDepth := 60) only [hk, x_110_0, x_110_1, x_110_1i, x_110_2, x_110_5, x_110_6, x_110_7, x_110_10, x_110_11, x_110_12, x_110_15, x_110_16, x_110_19, x_110_21, x_110_24, x_110_27, x_110_28, x_110_29, x_110_30, x_110_33, x_110_34, x_110_37, x_110_38, x_110_39, x_110_40, x_110_41, x_110_42, x_110_43, x_110_46, x_110_49, x_110_50, x_110_51, x_110_54, x_110_55, x_110_58, x_110_61, x_110_64, x_110_65, x_110_66, x_110_69, x_110_72, x_110_75, x_110_76, x_110_77, x_110_78, x_110_80, x_110_80i, x_110_81, x_110_82, x_110_83, x_110_86, x_110_87, x_110_90, x_110_91, x_110_92, x_110_93, x_110_94, x_110_94i, x_110_95, x_110_96, x_110_97, x_110_100, x_110_101, x_110_104, x_110_105, x_110_106, x_110_107, x_110_108, x_110_108i, x_110_109, x_110_110, x_110_111, x_110_112, x_110_112i, x_110_113, x_110_114, x_110_115, x_110_116, x_110_116i, x_110_117, x_110_118, x_110_119, x_110_120, x_110_121, x_110_122, x_110_125, x_110_126, x_110_129, x_110_130, x_110_131, x_110_135, x_110_135i, x_110_136, x_110_139, x_110_140, x_110_141, x_110_144, x_110_145, x_110_146, x_110_149, x_110_150, x_110_153, x_110_156, x_110_159, x_110_160, x_110_161, x_110_162, x_110_163, x_110_164, x_110_165, x_110_166, x_110_169, x_110_172, x_110_173, x_110_174, x_110_177, x_110_178, x_110_181, x_110_182, x_110_183, x_110_184, x_110_185, x_110_188, x_110_189, x_110_190, x_110_191, x_110_192, x_110_195, x_110_196, x_110_199, x_110_200, x_110_202, x_110_206, x_110_209, x_110_210, x_110_213, x_110_214, x_110_215, x_110_218, x_110_219, x_110_219i, x_110_220, x_110_223, x_110_224, x_110_225, x_110_228, x_110_229, x_110_232, x_110_233, x_110_236, x_110_237, x_110_239, x_110_242, x_110_243, x_110_246, x_110_247, x_110_250, x_110_251, x_110_253, x_110_256, x_110_257, x_110_260, x_110_261, x_110_262, x_110_263, x_110_264, x_110_267, x_110_268, x_110_271, x_110_272, x_110_274, x_110_275, x_110_276, x_110_277, x_110_277i, x_110_278, x_110_281, x_110_282, x_110_283, x_110_286, x_110_287, x_110_290, x_110_291, x_110_294, x_110_295, x_110_297, x_110_300, x_110_301, x_110_301i, x_110_302, x_110_305, x_110_306, x_110_307, x_110_310, x_110_311, x_110_312, x_110_314, x_110_317, x_110_320, x_110_321, x_110_322, x_110_323, x_110_324, x_110_325, x_110_328, x_110_329, x_110_332, x_110_333, x_110_334, x_110_335, x_110_336, x_110_337, x_110_339, x_110_342, x_110_345, x_110_346, x_110_347, x_110_348, x_110_351, x_110_354, x_110_355, x_110_356, x_110_357, x_110_358, x_110_359, x_110_362, x_110_363, x_110_364, x_110_367, x_110_368, x_110_369, x_110_372, x_110_373, x_110_376, x_110_377, x_110_380, x_110_381, x_110_382, x_110_383, x_110_383i, x_110_384, x_110_387, x_110_388, x_110_389, x_110_392, x_110_393, hp, k4, i_succ, hk1, n2, e, z0, Option.bind_some, mAft_n, mAft_v, mAft_x, mS_n, mS_i, mS_r, mS_l, mS_d, ne_eq, not_false_eq_true, not_true_eq_false, true_or, or_true, and_true, true_and, if_true, if_false, ite_true, ite_false, reduceIte, Nat.reduceAdd, Nat.reduceLeDiff, Nat.reduceEqDiff, false_and, and_false, or_false, false_or, eq_self, reduceCtorEq, mi_316, mi_317, ml_317, mi_318, ml_318, mi_319, ml_319, mi_320, ml_320, mi_321, ml_321, mi_322, ml_322, mi_359, ml_359, mv_316_1, mv_316_4, mv_316_7, mv_316_8, mv_316_9, mv_316_10, mv_316_13, mv_316_14, mv_316_15, pi_0, pi_1, pl_1, pv_1, pi_2, pl_2, pv_2, pi_3, pl_3, pv_3, pi_4, pl_4, pv_4, pi_5, pl_5, pv_5, pi_6, pl_6, pv_10, pi_7, pl_7, pv_11, pi_8, pl_8, pv_12, pi_9, pl_9, pv_13, pi_10, pl_10, pv_14, pi_11, pl_11, pv_15, pv_20, wi_0, wi_1, wl_1, wv_14, wi_2, wl_2, wv_15, wi_3, wl_3, wv_16, wi_4, wl_4, wv_17, wi_5, wl_5, wv_18, wv_21, pt_P, pt_v, pt_w, pt_SI, pt_SL, kM_SI, kM_SL, lI_SL, lV_SL, lK_SL, lN_SL, lL_SL, lIs_SL, nI_SI, nV_SI, nK_SI, nN_SI, nL_SI, nIs_SI, pp_c, pp_l, pp_r, pp_k, pp_k0, pp_j, pp_j0, isl]
    case pos =>
    obtain ⟨H, e, m2, f2⟩ := old.1 g
    rw [show nmk X.1 29 65 (j + 1) b = (j + 2, some ([], [(65, j + 1, 0)])) by unfold nmk; rw [if_pos g]]
    have F : Fr [p, p + 2, p + 4] G H := Fr_trans f1 f2
    have mT := tS_pS mt m2 F
    have hk2 := m2.1
    have aH := pA_Fr hp a F
    have aI := pA_is aH
    have hA := a.1
    have a4 : mI H A 4 = ne := aH.2.2.2.2.2.2.2
    have hsv : ∀ x q, ¬ q = j + 1 → (sNm X s (j + 1) x).2.2.1 q = s.2.2.1 q := by
      intro x q hq
      unfold sNm sMn sV
      split
      · show (if q = j + 1 then _ else s.2.2.1 q) = _
        rw [if_neg hq]
      · show (if q = j + 1 then _ else s.2.2.1 q) = _
        rw [if_neg hq]
    have hs1 : ∀ x, (sNm X s (j + 1) x).1 = 0 → s.1 = 0 := fun x z => (sMn_1 (s := sV s (j + 1) x) (by decide) z).1
    have eT : evTs (X, s, td, tp, tt, wo, ki, ne) [(65, j + 1, 0)] = (X, sNm X s (j + 1) (fnL X.2.2.2.2.2.1 (X.2.2.2.1 (j + 1)) X.2.2.2.2.2.2.2.2.1 0), td, tp, tt, wo, ki, ne ||| (if (sNm X s (j + 1) (fnL X.2.2.2.2.2.1 (X.2.2.2.1 (j + 1)) X.2.2.2.2.2.2.2.2.1 0)).1 = 0 then (1 : Int32) <<< ((sNm X s (j + 1) (fnL X.2.2.2.2.2.1 (X.2.2.2.1 (j + 1)) X.2.2.2.2.2.2.2.2.1 0)).2.2.1 (j + 1) &&& 31) else 0)) := rfl
    have hsv' := hsv (fnL X.2.2.2.2.2.1 (X.2.2.2.1 (j + 1)) X.2.2.2.2.2.2.2.2.1 0)
    have hs1' := hs1 (fnL X.2.2.2.2.2.1 (X.2.2.2.1 (j + 1)) X.2.2.2.2.2.2.2.2.1 0)
    generalize hs2 : sNm X s (j + 1) (fnL X.2.2.2.2.2.1 (X.2.2.2.1 (j + 1)) X.2.2.2.2.2.2.2.2.1 0) = s2 at *
    have er : mI H p 18 = s2.1 := m2.2.2.2.2.2.2.2.2.2.2.2.2.2.2.2.1
    have vv : mI H (p + 2) = s2.2.2.1 := m2.2.2.2.2.2.2.2.2.2.2.2.2.2.2.2.2.2.1
    have l4 := (pS_k m2).2.2.2.1
    have lt := (pS_k m2).2.2.1
    have q1 : Int32.ofNat (j + 1 + 1) - 1 = Int32.ofNat (j + 1) := by rw [show (1 : Int32) = Int32.ofNat 1 from rfl, i_subof (by omega)]; rfl
    have hj1 : mIn (Int32.ofNat (j + 1)) 402 = true := i_in (by rw [i_of_i (by omega)]; omega) (by rw [i_of_i (by omega)]; omega)
    have en1 : (Int32.ofNat (j + 1)).toNatClampNeg = j + 1 := i_of_n (by omega)
    have hj2 : mIn (Int32.ofNat (j + 1 + 1)) 402 = true := i_in (by rw [i_of_i (by omega)]; omega) (by rw [i_of_i (by omega)]; omega)
    have en2 : (Int32.ofNat (j + 1 + 1)).toNatClampNeg = j + 1 + 1 := i_of_n (by omega)
    have i4 : mIn 4 5 = true := by decide
    have c4 : (4 : Int32).toNatClampNeg = 4 := by decide
    have w := pS_c m2 38 44 (by decide) (by decide)
    have hne : ∀ q, q ≤ 11 → p + q ≠ A := by intro q hq; rcases hp with rfl | rfl <;> omega
    have wA : ∀ x : Int32, mI (mSI H A 4 x) (p + 1) (j + 1 + 1) = mI H (p + 1) (j + 1 + 1) := fun x => by rw [mI_SI_other (hne 1 (by omega))]
    have wB : ∀ x : Int32, mI (mSI H A 4 x) p 16 = mI H p 16 := fun x => by rw [mI_SI_other (show p ≠ A from hne 0 (by omega))]
    have dir : mExec (mCall (D + 3)) 110 134 [some (.ref p), some (.long (X.2.2.2.1 i0)), none, some (.ref A)] [] G = if X.1 (j + 1 + 1) = 38 then mExec (mCall (D + 3)) 110 134 [some (.ref p), some (.long (X.2.2.2.1 i0)), none, some (.ref A)] [] (mSI H A 4 (ne ||| (if s2.1 = 0 then (1 : Int32) <<< (s2.2.2.1 (j + 1) &&& 31) else 0))) else mExec (mCall (D + 3)) 110 205 [some (.ref p), some (.long (X.2.2.2.1 i0)), none, some (.ref A)] [] (mSI H A 4 (ne ||| (if s2.1 = 0 then (1 : Int32) <<< (s2.2.2.1 (j + 1) &&& 31) else 0))) := by
      rw [x_110_134]
      by_cases c : s2.1 = 0
      · have er' : mI H p 18 = 0 := er.trans c
        rw [if_pos c]
        simp (maxDischargeDepth := 60) only [hk, x_110_0, x_110_1, x_110_1i, x_110_2, x_110_5, x_110_6, x_110_7, x_110_10, x_110_11, x_110_12, x_110_15, x_110_16, x_110_19, x_110_21, x_110_24, x_110_27, x_110_28, x_110_29, x_110_30, x_110_33, x_110_34, x_110_37, x_110_38, x_110_39, x_110_40, x_110_41, x_110_42, x_110_43, x_110_46, x_110_49, x_110_50, x_110_51, x_110_54, x_110_55, x_110_58, x_110_61, x_110_64, x_110_65, x_110_66, x_110_69, x_110_72, x_110_75, x_110_76, x_110_77, x_110_78, x_110_80, x_110_80i, x_110_81, x_110_82, x_110_83, x_110_86, x_110_87, x_110_90, x_110_91, x_110_92, x_110_93, x_110_94, x_110_94i, x_110_95, x_110_96, x_110_97, x_110_100, x_110_101, x_110_104, x_110_105, x_110_106, x_110_107, x_110_108, x_110_108i, x_110_109, x_110_110, x_110_111, x_110_112, x_110_112i, x_110_113, x_110_114, x_110_115, x_110_116, x_110_116i, x_110_117, x_110_118, x_110_119, x_110_120, x_110_121, x_110_122, x_110_125, x_110_126, x_110_129, x_110_130, x_110_131, x_110_135, x_110_135i, x_110_136, x_110_139, x_110_140, x_110_141, x_110_144, x_110_145, x_110_146, x_110_149, x_110_150, x_110_153, x_110_156, x_110_159, x_110_160, x_110_161, x_110_162, x_110_163, x_110_164, x_110_165, x_110_166, x_110_169, x_110_172, x_110_173, x_110_174, x_110_177, x_110_178, x_110_181, x_110_182, x_110_183, x_110_184, x_110_185, x_110_188, x_110_189, x_110_190, x_110_191, x_110_192, x_110_195, x_110_196, x_110_199, x_110_200, x_110_202, x_110_206, x_110_209, x_110_210, x_110_213, x_110_214, x_110_215, x_110_218, x_110_219, x_110_219i, x_110_220, x_110_223, x_110_224, x_110_225, x_110_228, x_110_229, x_110_232, x_110_233, x_110_236, x_110_237, x_110_239, x_110_242, x_110_243, x_110_246, x_110_247, x_110_250, x_110_251, x_110_253, x_110_256, x_110_257, x_110_260, x_110_261, x_110_262, x_110_263, x_110_264, x_110_267, x_110_268, x_110_271, x_110_272, x_110_274, x_110_275, x_110_276, x_110_277, x_110_277i, x_110_278, x_110_281, x_110_282, x_110_283, x_110_286, x_110_287, x_110_290, x_110_291, x_110_294, x_110_295, x_110_297, x_110_300, x_110_301, x_110_301i, x_110_302, x_110_305, x_110_306, x_110_307, x_110_310, x_110_311, x_110_312, x_110_314, x_110_317, x_110_320, x_110_321, x_110_322, x_110_323, x_110_324, x_110_325, x_110_328, x_110_329, x_110_332, x_110_333, x_110_334, x_110_335, x_110_336, x_110_337, x_110_339, x_110_342, x_110_345, x_110_346, x_110_347, x_110_348, x_110_351, x_110_354, x_110_355, x_110_356, x_110_357, x_110_358, x_110_359, x_110_362, x_110_363, x_110_364, x_110_367, x_110_368, x_110_369, x_110_372, x_110_373, x_110_376, x_110_377, x_110_380, x_110_381, x_110_382, x_110_383, x_110_383i, x_110_384, x_110_387, x_110_388, x_110_389, x_110_392, x_110_393, hp, k4, i_succ, hk1, n2, e, hk2, n10, aI.1, aI.2, i4, c4, a4, er', l4, q1, hj1, en1, vv, hj2, en2, wA, wB, w, Option.bind_some, mAft_n, mAft_v, mAft_x, mS_n, mS_i, mS_r, mS_l, mS_d, ne_eq, not_false_eq_true, not_true_eq_false, true_or, or_true, and_true, true_and, if_true, if_false, ite_true, ite_false, reduceIte, Nat.reduceAdd, Nat.reduceLeDiff, Nat.reduceEqDiff, false_and, and_false, or_false, false_or, eq_self, reduceCtorEq, mi_316, mi_317, ml_317, mi_318, ml_318, mi_319, ml_319, mi_320, ml_320, mi_321, ml_321, mi_322, ml_322, mi_359, ml_359, mv_316_1, mv_316_4, mv_316_7, mv_316_8, mv_316_9, mv_316_10, mv_316_13, mv_316_14, mv_316_15, pi_0, pi_1, pl_1, pv_1, pi_2, pl_2, pv_2, pi_3, pl_3, pv_3, pi_4, pl_4, pv_4, pi_5, pl_5, pv_5, pi_6, pl_6, pv_10, pi_7, pl_7, pv_11, pi_8, pl_8, pv_12, pi_9, pl_9, pv_13, pi_10, pl_10, pv_14, pi_11, pl_11, pv_15, pv_20, wi_0, wi_1, wl_1, wv_14, wi_2, wl_2, wv_15, wi_3, wl_3, wv_16, wi_4, wl_4, wv_17, wi_5, wl_5, wv_18, wv_21, pt_P, pt_v, pt_w, pt_SI, pt_SL, kM_SI, kM_SL, lI_SL, lV_SL, lK_SL, lN_SL, lL_SL, lIs_SL, nI_SI, nV_SI, nK_SI, nN_SI, nL_SI, nIs_SI, pp_c, pp_l, pp_r, pp_k, pp_k0, pp_j, pp_j0, isl]
      · have er' : ¬ mI H p 18 = 0 := by rw [er]; exact c
        rw [if_neg c]
        simp (maxDischargeDepth := 60) only [hk, x_110_0, x_110_1, x_110_1i, x_110_2, x_110_5, x_110_6, x_110_7, x_110_10, x_110_11, x_110_12, x_110_15, x_110_16, x_110_19, x_110_21, x_110_24, x_110_27, x_110_28, x_110_29, x_110_30, x_110_33, x_110_34, x_110_37, x_110_38, x_110_39, x_110_40, x_110_41, x_110_42, x_110_43, x_110_46, x_110_49, x_110_50, x_110_51, x_110_54, x_110_55, x_110_58, x_110_61, x_110_64, x_110_65, x_110_66, x_110_69, x_110_72, x_110_75, x_110_76, x_110_77, x_110_78, x_110_80, x_110_80i, x_110_81, x_110_82, x_110_83, x_110_86, x_110_87, x_110_90, x_110_91, x_110_92, x_110_93, x_110_94, x_110_94i, x_110_95, x_110_96, x_110_97, x_110_100, x_110_101, x_110_104, x_110_105, x_110_106, x_110_107, x_110_108, x_110_108i, x_110_109, x_110_110, x_110_111, x_110_112, x_110_112i, x_110_113, x_110_114, x_110_115, x_110_116, x_110_116i, x_110_117, x_110_118, x_110_119, x_110_120, x_110_121, x_110_122, x_110_125, x_110_126, x_110_129, x_110_130, x_110_131, x_110_135, x_110_135i, x_110_136, x_110_139, x_110_140, x_110_141, x_110_144, x_110_145, x_110_146, x_110_149, x_110_150, x_110_153, x_110_156, x_110_159, x_110_160, x_110_161, x_110_162, x_110_163, x_110_164, x_110_165, x_110_166, x_110_169, x_110_172, x_110_173, x_110_174, x_110_177, x_110_178, x_110_181, x_110_182, x_110_183, x_110_184, x_110_185, x_110_188, x_110_189, x_110_190, x_110_191, x_110_192, x_110_195, x_110_196, x_110_199, x_110_200, x_110_202, x_110_206, x_110_209, x_110_210, x_110_213, x_110_214, x_110_215, x_110_218, x_110_219, x_110_219i, x_110_220, x_110_223, x_110_224, x_110_225, x_110_228, x_110_229, x_110_232, x_110_233, x_110_236, x_110_237, x_110_239, x_110_242, x_110_243, x_110_246, x_110_247, x_110_250, x_110_251, x_110_253, x_110_256, x_110_257, x_110_260, x_110_261, x_110_262, x_110_263, x_110_264, x_110_267, x_110_268, x_110_271, x_110_272, x_110_274, x_110_275, x_110_276, x_110_277, x_110_277i, x_110_278, x_110_281, x_110_282, x_110_283, x_110_286, x_110_287, x_110_290, x_110_291, x_110_294, x_110_295, x_110_297, x_110_300, x_110_301, x_110_301i, x_110_302, x_110_305, x_110_306, x_110_307, x_110_310, x_110_311, x_110_312, x_110_314, x_110_317, x_110_320, x_110_321, x_110_322, x_110_323, x_110_324, x_110_325, x_110_328, x_110_329, x_110_332, x_110_333, x_110_334, x_110_335, x_110_336, x_110_337, x_110_339, x_110_342, x_110_345, x_110_346, x_110_347, x_110_348, x_110_351, x_110_354, x_110_355, x_110_356, x_110_357, x_110_358, x_110_359, x_110_362, x_110_363, x_110_364, x_110_367, x_110_368, x_110_369, x_110_372, x_110_373, x_110_376, x_110_377, x_110_380, x_110_381, x_110_382, x_110_383, x_110_383i, x_110_384, x_110_387, x_110_388, x_110_389, x_110_392, x_110_393, hp, k4, i_succ, hk1, n2, e, hk2, n10, aI.1, aI.2, i4, c4, a4, er', l4, q1, hj1, en1, vv, hj2, en2, wA, wB, w, Option.bind_some, mAft_n, mAft_v, mAft_x, mS_n, mS_i, mS_r, mS_l, mS_d, ne_eq, not_false_eq_true, not_true_eq_false, true_or, or_true, and_true, true_and, if_true, if_false, ite_true, ite_false, reduceIte, Nat.reduceAdd, Nat.reduceLeDiff, Nat.reduceEqDiff, false_and, and_false, or_false, false_or, eq_self, reduceCtorEq, mi_316, mi_317, ml_317, mi_318, ml_318, mi_319, ml_319, mi_320, ml_320, mi_321, ml_321, mi_322, ml_322, mi_359, ml_359, mv_316_1, mv_316_4, mv_316_7, mv_316_8, mv_316_9, mv_316_10, mv_316_13, mv_316_14, mv_316_15, pi_0, pi_1, pl_1, pv_1, pi_2, pl_2, pv_2, pi_3, pl_3, pv_3, pi_4, pl_4, pv_4, pi_5, pl_5, pv_5, pi_6, pl_6, pv_10, pi_7, pl_7, pv_11, pi_8, pl_8, pv_12, pi_9, pl_9, pv_13, pi_10, pl_10, pv_14, pi_11, pl_11, pv_15, pv_20, wi_0, wi_1, wl_1, wv_14, wi_2, wl_2, wv_15, wi_3, wl_3, wv_16, wi_4, wl_4, wv_17, wi_5, wl_5, wv_18, wv_21, pt_P, pt_v, pt_w, pt_SI, pt_SL, kM_SI, kM_SL, lI_SL, lV_SL, lK_SL, lN_SL, lL_SL, lIs_SL, nI_SI, nV_SI, nK_SI, nN_SI, nL_SI, nIs_SI, pp_c, pp_l, pp_r, pp_k, pp_k0, pp_j, pp_j0, isl]
    have mTo : tS (mSI H A 4 (ne ||| (if s2.1 = 0 then (1 : Int32) <<< (s2.2.2.1 (j + 1) &&& 31) else 0))) p (j + 1 + 1) (X, s2, td, tp, tt, wo, ki, ne ||| (if s2.1 = 0 then (1 : Int32) <<< (s2.2.2.1 (j + 1) &&& 31) else 0)) := by
      refine ⟨pS_out m2 hA, ?_, ?_, ?_⟩
      · rw [mI_SI_other (hne 9 (by omega))]; exact mT.2.1
      · rw [mI_SI_other (hne 10 (by omega))]; exact mT.2.2.1
      · rw [mI_SI_other (hne 11 (by omega))]; exact mT.2.2.2
    have e0 : s2.2.2.1 (i0 + 2) = v0 := by rw [hsv' _ (by omega)]; exact hv0
    have e1 : s2.2.2.1 (i0 + 3) = v1 := by rw [hsv' _ (by omega)]; exact hv1
    have enp : s2.1 = 0 → X.2.2.2.2.2.2.2.2.1 < 16 := fun z => hnp (hs1' z)
    rw [dir]
    refine RH_pre (j' := j + 1 + 1) (H := mSI H A 4 (ne ||| (if s2.1 = 0 then (1 : Int32) <<< (s2.2.2.1 (j + 1) &&& 31) else 0))) (e0 := [(65, j + 1, 0)]) (r := if X.1 (j + 2) = 38 then pNd X.1 i0 n (j + 2) b else pP1 X.1 i0 (j + 2) b) (by omega) (by omega) (FT_mono (FT_out (FT_Fr F) hA) (by omega)) eT rfl ?_ rfl
    by_cases y : X.1 (j + 1 + 1) = 38
    · rw [if_pos y, if_pos y]
      exact ih mTo (by show X.1 (j + 1 + 1) < 48; omega) (by omega) (pA_4 aH) (by omega) e0 e1 enp
    · rw [if_neg y, if_neg y]
      exact r_p1 (D := D) mTo (pA_4 aH) (by omega) e0 e1 enp
