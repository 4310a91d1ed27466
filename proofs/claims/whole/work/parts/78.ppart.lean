/-! THE REFERENCE'S PARSER: A PART'S END -/
theorem pS_adP {X : PX} {p i d j a n A : Nat} {s : RS} {h : mH} {w : Int64} (m : pS h p X i d s) (hr : X.2.2.2.2.2.2.2.2.1 < 16) : pS (mSI (mSL (mCpy h A j (p + 10) a n) (p + 7) X.2.2.2.2.2.2.2.2.1 w) p 8 (Int32.ofNat (X.2.2.2.2.2.2.2.2.1 + 1))) p (adP w X) i d s := by
  obtain ⟨k, ln, f, wd, rs, ps, ts, nr, np, nt, nd⟩ := X
  obtain ⟨hk, hp, hX, hi, w1, w2, w3, w4, w5, w6, n1, n2, n3, a1, a2, a3, a4, a5, a6, a7⟩ := m
  obtain ⟨x1, x2, x3, x4, x5, x6, x7, x8⟩ := hX
  unfold adP
  dsimp only at *
  have L : ∀ q k, (q = p + 7 → False) → mL (mSI (mSL (mCpy h A j (p + 10) a n) (p + 7) np w) p 8 (Int32.ofNat (np + 1))) q k = mL h q k := by
    intro q k hq
    show (if q = p + 7 ∧ k = np then w else mL h q k) = _
    rw [if_neg (fun z => hq z.1)]
  have I : ∀ q k, ¬ (q = p ∧ k = 8) → ¬ (q = p + 10) → mI (mSI (mSL (mCpy h A j (p + 10) a n) (p + 7) np w) p 8 (Int32.ofNat (np + 1))) q k = mI h q k := by
    intro q k hq hq2
    show (if q = p ∧ k = 8 then _ else if q = p + 10 ∧ a ≤ k ∧ k < a + n then _ else mI h q k) = _
    rw [if_neg hq, if_neg (fun z => hq2 z.1)]
  refine ⟨by rw [kM_SI, kM_SL, kM_Cpy]; exact hk, hp, ⟨x1, x2, x3, x4, x5, x6, Nat.succ_le_of_lt hr, x8⟩, hi, ?_, ?_, ?_, ?_, ?_, ?_, ?_, ?_, ?_, ?_, ?_, ?_, ?_, ?_, ?_, ?_⟩
  · intro j hj; rw [I _ _ (by omega) (by omega)]; exact w1 j hj
  · funext q; rw [I _ _ (by omega) (by omega), w2]
  · funext q; rw [L _ _ (by omega), w3]
  · funext q; rw [L _ _ (by omega), w4]
  · funext q
    show (if p + 7 = p + 7 ∧ q = np then w else mL h (p + 7) q) = if q = np then w else ps q
    rw [w5]
    by_cases z : q = np <;> simp [z]
  · funext q; rw [L _ _ (by omega), w6]
  · rw [I _ _ (by omega) (by omega), n1]
  · rw [nI_SI, if_pos ⟨rfl, rfl⟩]
  · rw [I _ _ (by omega) (by omega), n3]
  · rw [I _ _ (by omega) (by omega), a1]
  · rw [I _ _ (by omega) (by omega), a2]
  · rw [I _ _ (by omega) (by omega), a3]
  · rw [I _ _ (by omega) (by omega), a4]
  · funext q; rw [I _ _ (by omega) (by omega), a5]
  · funext q; rw [I _ _ (by omega) (by omega), a6]
  · rw [I _ _ (by omega) (by omega), a7]
def pP3 (k : Nat → Nat) (i0 : Nat) : PA := fun i b => match tk k 37 i b with
  | (j, none) => (j, none)
  | (j, some (c, e)) => (j, some (c, e ++ [(3, i0, 0)]))
theorem r_p3 {D p j i0 A b : Nat} {Q : TS} {v0 v1 : Int32} {G : mH} (m : tS G p j Q) (a : pA G A v0 v1 Q.2.2.2.2.2.1 Q.2.2.2.2.2.2.1 Q.2.2.2.2.2.2.2) (hv0 : Q.2.1.2.2.1 (i0 + 2) = v0) (hv1 : Q.2.1.2.2.1 (i0 + 3) = v1) (hnp : Q.2.1.1 = 0 → Q.1.2.2.2.2.2.2.2.2.1 < 16) :
    RH p j Q G (mExec (mCall (D + 3)) 110 336 [some (.ref p), some (.long (Q.1.2.2.2.1 i0)), none, some (.ref A)] [] G) (pP3 Q.1.1 i0 j b) := by
  obtain ⟨X, s, td, tp, tt, wo, ki, ne⟩ := Q
  have z0 : (0 : Int32) = 0 ∨ (0 : Int32) = 1 := Or.inl rfl
  have z1 : (1 : Int32) = 0 ∨ (1 : Int32) = 1 := Or.inr rfl
  have n10 : ¬ (1 : Int32) = 0 := by decide
  have mt := m
  obtain ⟨m, t1, t2, t3⟩ := m
  dsimp only at m t1 t2 t3 a hv0 hv1 hnp
  obtain ⟨k1, k2, k3, k4, k5, hk, hp⟩ := pS_k m
  have eat := q_eat (D := D + 1) m 37 (by decide) (show (59 : Int32) = kap 37 by decide)
  show RH p j _ G _ (pP3 X.1 i0 j b)
  by_cases g : X.1 j = 37
  case neg =>
    obtain ⟨H, e, e2⟩ := eat.2 g
    have eP : pP3 X.1 i0 j b = (j, none) := by unfold pP3 tk; rw [if_neg g]
    rw [eP]
    obtain ⟨b1, b2, b3, b4⟩ := e2
    refine ⟨H, ?_, b1, b2, b3, FT_mono (FT_Fr b4) (by omega)⟩
    rw [x_110_336]
    simp (maxDischargeDepth := 60) only [hk, x_110_0, x_110_1, x_110_1i, x_110_2, x_110_5, x_110_6, x_110_7, x_110_10, x_110_11, x_110_12, x_110_15, x_110_16, x_110_19, x_110_21, x_110_24, x_110_27, x_110_28, x_110_29, x_110_30, x_110_33, x_110_34, x_110_37, x_110_38, x_110_39, x_110_40, x_110_41, x_110_42, x_110_43, x_110_46, x_110_49, x_110_50, x_110_51, x_110_54, x_110_55, x_110_58, x_110_61, x_110_64, x_110_65, x_110_66, x_110_69, x_110_72, x_110_75, x_110_76, x_110_77, x_110_78, x_110_80, x_110_80i, x_110_81, x_110_82, x_110_83, x_110_86, x_110_87, x_110_90, x_110_91, x_110_92, x_110_93, x_110_94, x_110_94i, x_110_95, x_110_96, x_110_97, x_110_100, x_110_101, x_110_104, x_110_105, x_110_106, x_110_107, x_110_108, x_110_108i, x_110_109, x_110_110, x_110_111, x_110_112, x_110_112i, x_110_113, x_110_114, x_110_115, x_110_116, x_110_116i, x_110_117, x_110_118, x_110_119, x_110_120, x_110_121, x_110_122, x_110_125, x_110_126, x_110_129, x_110_130, x_110_131, x_110_134, x_110_135, x_110_135i, x_110_136, x_110_139, x_110_140, x_110_141, x_110_144, x_110_145, x_110_146, x_110_149, x_110_150, x_110_153, x_110_156, x_110_159, x_110_160, x_110_161, x_110_162, x_110_163, x_110_164, x_110_165, x_110_166, x_110_169, x_110_172, x_110_173, x_110_174, x_110_177, x_110_178, x_110_181, x_110_182, x_110_183, x_110_184, x_110_185, x_110_188, x_110_189, x_110_190, x_110_191, x_110_192, x_110_195, x_110_196, x_110_199, x_110_200, x_110_202, x_110_205, x_110_206, x_110_209, x_110_210, x_110_213, x_110_214, x_110_215, x_110_218, x_110_219, x_110_219i, x_110_220, x_110_223, x_110_224, x_110_225, x_110_228, x_110_229, x_110_232, x_110_233, x_110_236, x_110_237, x_110_239, x_110_242, x_110_243, x_110_246, x_110_247, x_110_250, x_110_251, x_110_253, x_110_256, x_110_257, x_110_260, x_110_261, x_110_262, x_110_263, x_110_264, x_110_267, x_110_268, x_110_271, x_110_272, x_110_274, x_110_275, x_110_276, x_110_277, x_110_277i, x_110_278, x_110_281, x_110_282, x_110_283, x_110_286, x_110_287, x_110_290, x_110_291, x_110_294, x_110_295, x_110_297, x_110_300, x_110_301, x_110_301i, x_110_302, x_110_305, x_110_306, x_110_307, x_110_310, x_110_311, x_110_312, x_110_314, x_110_317, x_110_320, x_110_321, x_110_322, x_110_323, x_110_324, x_110_325, x_110_328, x_110_329, x_110_332, x_110_333, x_110_334, x_110_335, x_110_337, x_110_339, x_110_342, x_110_345, x_110_346, x_110_347, x_110_348, x_110_351, x_110_354, x_110_355, x_110_356, x_110_357, x_110_358, x_110_359, x_110_362, x_110_363, x_110_364, x_110_367, x_110_368, x_110_369, x_110_372, x_110_373, x_110_376, x_110_377, x_110_380, x_110_381, x_110_382, x_110_383, x_110_383i, x_110_384, x_110_387, x_110_388, x_110_389, x_110_392, x_110_393, hp, e, z0, Option.bind_some, mAft_n, mAft_v, mAft_x, mS_n, mS_i, mS_r, mS_l, mS_d, ne_eq, not_false_eq_true, not_true_eq_false, true_or, or_true, and_true, true_and, if_true, if_false, ite_true, ite_false, reduceIte, Nat.reduceAdd, Nat.reduceLeDiff, Nat.reduceEqDiff, false_and, and_false, or_false, false_or, eq_self, reduceCtorEq, mi_316, mi_317, ml_317, mi_318, ml_318, mi_319, ml_319, mi_320, ml_320, mi_321, ml_321, mi_322, ml_322, mi_359, ml_359, mv_316_1, mv_316_4, mv_316_7, mv_316_8, mv_316_9, mv_316_10, mv_316_13, mv_316_14, mv_316_15, pi_0, pi_1, pl_1, pv_1, pi_2, pl_2, pv_2, pi_3, pl_3, pv_3, pi_4, pl_4, pv_4, pi_5, pl_5, pv_5, pi_6, pl_6, pv_10, pi_7, pl_7, pv_11, pi_8, pl_8, pv_12, pi_9, pl_9, pv_13, pi_10, pl_10, pv_14, pi_11, pl_11, pv_15, pv_20, wi_0, wi_1, wl_1, wv_14, wi_2, wl_2, wv_15, wi_3, wl_3, wv_16, wi_4, wl_4, wv_17, wi_5, wl_5, wv_18, wv_21, pt_P, pt_v, pt_w, pt_SI, pt_SL, kM_SI, kM_SL, lI_SL, lV_SL, lK_SL, lN_SL, lL_SL, lIs_SL, nI_SI, nV_SI, nK_SI, nN_SI, nL_SI, nIs_SI, pp_c, pp_l, pp_r, pp_k, pp_k0, pp_j, pp_j0, isl]
  case pos =>
  obtain ⟨H, e, m1, f1⟩ := eat.1 g
  have eP : pP3 X.1 i0 j b = (j + 1, some ([], [(3, i0, 0)])) := by unfold pP3 tk; rw [if_pos g]; rfl
  rw [eP]
  have hk1 := m1.1
  have mT := tS_pS mt m1 f1
  have aH := pA_Fr hp a f1
  have aI := pA_is aH
  have er : mI H p 18 = s.1 := m1.2.2.2.2.2.2.2.2.2.2.2.2.2.2.2.1
  have n2 : mI H p 8 = Int32.ofNat X.2.2.2.2.2.2.2.2.1 := m1.2.2.2.2.2.2.2.2.2.2.2.1
  have eE : evTs (X, s, td, tp, tt, wo, ki, ne) [(3, i0, 0)] = (if s.1 = 0 then (adP (X.2.2.2.1 i0) X, s, td, cpF tp (5 * X.2.2.2.2.2.2.2.2.1) 5 (fun q => [s.2.2.1 (i0 + 2), s.2.2.1 (i0 + 3), wo, ki, ne].getD q 0), tt, wo, ki, ne) else (X, s, td, tp, tt, wo, ki, ne)) := rfl
  show ∃ H, _ ∧ tS H p (j + 1) (evTs (X, s, td, tp, tt, wo, ki, ne) [(3, i0, 0)]) ∧ j < j + 1 ∧ FT p (j + 1 - j) G H
  rw [eE]
  by_cases c : s.1 = 0
  case neg =>
    rw [if_neg c]
    have er' : ¬ mI H p 18 = 0 := by rw [er]; exact c
    refine ⟨H, ?_, mT, by omega, FT_mono (FT_Fr f1) (by omega)⟩
    rw [x_110_336]
    simp (maxDischargeDepth := 60) only [hk, x_110_0, x_110_1, x_110_1i, x_110_2, x_110_5, x_110_6, x_110_7, x_110_10, x_110_11, x_110_12, x_110_15, x_110_16, x_110_19, x_110_21, x_110_24, x_110_27, x_110_28, x_110_29, x_110_30, x_110_33, x_110_34, x_110_37, x_110_38, x_110_39, x_110_40, x_110_41, x_110_42, x_110_43, x_110_46, x_110_49, x_110_50, x_110_51, x_110_54, x_110_55, x_110_58, x_110_61, x_110_64, x_110_65, x_110_66, x_110_69, x_110_72, x_110_75, x_110_76, x_110_77, x_110_78, x_110_80, x_110_80i, x_110_81, x_110_82, x_110_83, x_110_86, x_110_87, x_110_90, x_110_91, x_110_92, x_110_93, x_110_94, x_110_94i, x_110_95, x_110_96, x_110_97, x_110_100, x_110_101, x_110_104, x_110_105, x_110_106, x_110_107, x_110_108, x_110_108i, x_110_109, x_110_110, x_110_111, x_110_112, x_110_112i, x_110_113, x_110_114, x_110_115, x_110_116, x_110_116i, x_110_117, x_110_118, x_110_119, x_110_120, x_110_121, x_110_122, x_110_125, x_110_126, x_110_129, x_110_130, x_110_131, x_110_134, x_110_135, x_110_135i, x_110_136, x_110_139, x_110_140, x_110_141, x_110_144, x_110_145, x_110_146, x_110_149, x_110_150, x_110_153, x_110_156, x_110_159, x_110_160, x_110_161, x_110_162, x_110_163, x_110_164, x_110_165, x_110_166, x_110_169, x_110_172, x_110_173, x_110_174, x_110_177, x_110_178, x_110_181, x_110_182, x_110_183, x_110_184, x_110_185, x_110_188, x_110_189, x_110_190, x_110_191, x_110_192, x_110_195, x_110_196, x_110_199, x_110_200, x_110_202, x_110_205, x_110_206, x_110_209, x_110_210, x_110_213, x_110_214, x_110_215, x_110_218, x_110_219, x_110_219i, x_110_220, x_110_223, x_110_224, x_110_225, x_110_228, x_110_229, x_110_232, x_110_233, x_110_236, x_110_237, x_110_239, x_110_242, x_110_243, x_110_246, x_110_247, x_110_250, x_110_251, x_110_253, x_110_256, x_110_257, x_110_260, x_110_261, x_110_262, x_110_263, x_110_264, x_110_267, x_110_268, x_110_271, x_110_272, x_110_274, x_110_275, x_110_276, x_110_277, x_110_277i, x_110_278, x_110_281, x_110_282, x_110_283, x_110_286, x_110_287, x_110_290, x_110_291, x_110_294, x_110_295, x_110_297, x_110_300, x_110_301, x_110_301i, x_110_302, x_110_305, x_110_306, x_110_307, x_110_310, x_110_311, x_110_312, x_110_314, x_110_317, x_110_320, x_110_321, x_110_322, x_110_323, x_110_324, x_110_325, x_110_328, x_110_329, x_110_332, x_110_333, x_110_334, x_110_335, x_110_337, x_110_339, x_110_342, x_110_345, x_110_346, x_110_347, x_110_348, x_110_351, x_110_354, x_110_355, x_110_356, x_110_357, x_110_358, x_110_359, x_110_362, x_110_363, x_110_364, x_110_367, x_110_368, x_110_369, x_110_372, x_110_373, x_110_376, x_110_377, x_110_380, x_110_381, x_110_382, x_110_383, x_110_383i, x_110_384, x_110_387, x_110_388, x_110_389, x_110_392, x_110_393, hp, e, hk1, n10, er', z1, Option.bind_some, mAft_n, mAft_v, mAft_x, mS_n, mS_i, mS_r, mS_l, mS_d, ne_eq, not_false_eq_true, not_true_eq_false, true_or, or_true, and_true, true_and, if_true, if_false, ite_true, ite_false, reduceIte, Nat.reduceAdd, Nat.reduceLeDiff, Nat.reduceEqDiff, false_and, and_false, or_false, false_or, eq_self, reduceCtorEq, mi_316, mi_317, ml_317, mi_318, ml_318, mi_319, ml_319, mi_320, ml_320, mi_321, ml_321, mi_322, ml_322, mi_359, ml_359, mv_316_1, mv_316_4, mv_316_7, mv_316_8, mv_316_9, mv_316_10, mv_316_13, mv_316_14, mv_316_15, pi_0, pi_1, pl_1, pv_1, pi_2, pl_2, pv_2, pi_3, pl_3, pv_3, pi_4, pl_4, pv_4, pi_5, pl_5, pv_5, pi_6, pl_6, pv_10, pi_7, pl_7, pv_11, pi_8, pl_8, pv_12, pi_9, pl_9, pv_13, pi_10, pl_10, pv_14, pi_11, pl_11, pv_15, pv_20, wi_0, wi_1, wl_1, wv_14, wi_2, wl_2, wv_15, wi_3, wl_3, wv_16, wi_4, wl_4, wv_17, wi_5, wl_5, wv_18, wv_21, pt_P, pt_v, pt_w, pt_SI, pt_SL, kM_SI, kM_SL, lI_SL, lV_SL, lK_SL, lN_SL, lL_SL, lIs_SL, nI_SI, nV_SI, nK_SI, nN_SI, nL_SI, nIs_SI, pp_c, pp_l, pp_r, pp_k, pp_k0, pp_j, pp_j0, isl]
  case pos =>
  rw [if_pos c]
  have er' : mI H p 18 = 0 := er.trans c
  have np16 := hnp c
  obtain ⟨q1, q2, q3, d0, d1, d2, d3, d4⟩ := aH
  have m5n : (5 : Int32) * Int32.ofNat X.2.2.2.2.2.2.2.2.1 = Int32.ofNat (5 * X.2.2.2.2.2.2.2.2.1) := by rw [show (5 : Int32) = Int32.ofNat 5 from rfl, i_mulof]
  have en5 : (Int32.ofNat (5 * X.2.2.2.2.2.2.2.2.1)).toNatClampNeg = 5 * X.2.2.2.2.2.2.2.2.1 := i_of_n (by omega)
  have p2 : ¬ Int32.ofNat (5 * X.2.2.2.2.2.2.2.2.1) < 0 := by rw [Int32.lt_iff_toInt_lt, i_of_i (by omega)]; show ¬ ((_ : Nat) : Int) < 0; omega
  have p3 : ¬ (5 : Int32) < 0 := by decide
  have p0 : ¬ (0 : Int32) < 0 := by decide
  have t5 : (5 : Int32).toNatClampNeg = 5 := by decide
  have t0 : (0 : Int32).toNatClampNeg = 0 := by decide
  have r1 : 0 + 5 ≤ 5 := by omega
  have r2 : 5 * X.2.2.2.2.2.2.2.2.1 + 5 ≤ 80 := by omega
  have hjr : mIn (Int32.ofNat X.2.2.2.2.2.2.2.2.1) 16 = true := i_in (by rw [i_of_i (by omega)]; omega) (by rw [i_of_i (by omega)]; omega)
  have enr : (Int32.ofNat X.2.2.2.2.2.2.2.2.1).toNatClampNeg = X.2.2.2.2.2.2.2.2.1 := i_of_n (by omega)
  have a78 : mI (mCpy H A 0 (p + 10) (5 * X.2.2.2.2.2.2.2.2.1) 5) p 8 = Int32.ofNat X.2.2.2.2.2.2.2.2.1 := by
    show (if p = p + 10 ∧ _ then _ else mI H p 8) = _
    rw [if_neg (fun w => absurd w.1 (by omega))]
    exact n2
  refine ⟨mSI (mSL (mCpy H A 0 (p + 10) (5 * X.2.2.2.2.2.2.2.2.1) 5) (p + 7) X.2.2.2.2.2.2.2.2.1 (X.2.2.2.1 i0)) p 8 (Int32.ofNat (X.2.2.2.2.2.2.2.2.1 + 1)), ?_, ⟨pS_adP m1 np16, ?_, ?_, ?_⟩, by omega, FT_mono (FT_SI (FT_SL (FT_Cpy (FT_Fr f1) (by omega)) (by omega)) (by omega)) (by omega)⟩
  · rw [x_110_336]
    simp (maxDischargeDepth := 60) only [hk, x_110_0, x_110_1, x_110_1i, x_110_2, x_110_5, x_110_6, x_110_7, x_110_10, x_110_11, x_110_12, x_110_15, x_110_16, x_110_19, x_110_21, x_110_24, x_110_27, x_110_28, x_110_29, x_110_30, x_110_33, x_110_34, x_110_37, x_110_38, x_110_39, x_110_40, x_110_41, x_110_42, x_110_43, x_110_46, x_110_49, x_110_50, x_110_51, x_110_54, x_110_55, x_110_58, x_110_61, x_110_64, x_110_65, x_110_66, x_110_69, x_110_72, x_110_75, x_110_76, x_110_77, x_110_78, x_110_80, x_110_80i, x_110_81, x_110_82, x_110_83, x_110_86, x_110_87, x_110_90, x_110_91, x_110_92, x_110_93, x_110_94, x_110_94i, x_110_95, x_110_96, x_110_97, x_110_100, x_110_101, x_110_104, x_110_105, x_110_106, x_110_107, x_110_108, x_110_108i, x_110_109, x_110_110, x_110_111, x_110_112, x_110_112i, x_110_113, x_110_114, x_110_115, x_110_116, x_110_116i, x_110_117, x_110_118, x_110_119, x_110_120, x_110_121, x_110_122, x_110_125, x_110_126, x_110_129, x_110_130, x_110_131, x_110_134, x_110_135, x_110_135i, x_110_136, x_110_139, x_110_140, x_110_141, x_110_144, x_110_145, x_110_146, x_110_149, x_110_150, x_110_153, x_110_156, x_110_159, x_110_160, x_110_161, x_110_162, x_110_163, x_110_164, x_110_165, x_110_166, x_110_169, x_110_172, x_110_173, x_110_174, x_110_177, x_110_178, x_110_181, x_110_182, x_110_183, x_110_184, x_110_185, x_110_188, x_110_189, x_110_190, x_110_191, x_110_192, x_110_195, x_110_196, x_110_199, x_110_200, x_110_202, x_110_205, x_110_206, x_110_209, x_110_210, x_110_213, x_110_214, x_110_215, x_110_218, x_110_219, x_110_219i, x_110_220, x_110_223, x_110_224, x_110_225, x_110_228, x_110_229, x_110_232, x_110_233, x_110_236, x_110_237, x_110_239, x_110_242, x_110_243, x_110_246, x_110_247, x_110_250, x_110_251, x_110_253, x_110_256, x_110_257, x_110_260, x_110_261, x_110_262, x_110_263, x_110_264, x_110_267, x_110_268, x_110_271, x_110_272, x_110_274, x_110_275, x_110_276, x_110_277, x_110_277i, x_110_278, x_110_281, x_110_282, x_110_283, x_110_286, x_110_287, x_110_290, x_110_291, x_110_294, x_110_295, x_110_297, x_110_300, x_110_301, x_110_301i, x_110_302, x_110_305, x_110_306, x_110_307, x_110_310, x_110_311, x_110_312, x_110_314, x_110_317, x_110_320, x_110_321, x_110_322, x_110_323, x_110_324, x_110_325, x_110_328, x_110_329, x_110_332, x_110_333, x_110_334, x_110_335, x_110_337, x_110_339, x_110_342, x_110_345, x_110_346, x_110_347, x_110_348, x_110_351, x_110_354, x_110_355, x_110_356, x_110_357, x_110_358, x_110_359, x_110_362, x_110_363, x_110_364, x_110_367, x_110_368, x_110_369, x_110_372, x_110_373, x_110_376, x_110_377, x_110_380, x_110_381, x_110_382, x_110_383, x_110_383i, x_110_384, x_110_387, x_110_388, x_110_389, x_110_392, x_110_393, hp, e, hk1, n10, er', n2, m5n, aI.1, aI.2, en5, p2, p3, p0, t5, t0, r1, r2, kM_Cpy, a78, hjr, enr, kM_SL, i_succ, z1, Option.bind_some, mAft_n, mAft_v, mAft_x, mS_n, mS_i, mS_r, mS_l, mS_d, ne_eq, not_false_eq_true, not_true_eq_false, true_or, or_true, and_true, true_and, if_true, if_false, ite_true, ite_false, reduceIte, Nat.reduceAdd, Nat.reduceLeDiff, Nat.reduceEqDiff, false_and, and_false, or_false, false_or, eq_self, reduceCtorEq, mi_316, mi_317, ml_317, mi_318, ml_318, mi_319, ml_319, mi_320, ml_320, mi_321, ml_321, mi_322, ml_322, mi_359, ml_359, mv_316_1, mv_316_4, mv_316_7, mv_316_8, mv_316_9, mv_316_10, mv_316_13, mv_316_14, mv_316_15, pi_0, pi_1, pl_1, pv_1, pi_2, pl_2, pv_2, pi_3, pl_3, pv_3, pi_4, pl_4, pv_4, pi_5, pl_5, pv_5, pi_6, pl_6, pv_10, pi_7, pl_7, pv_11, pi_8, pl_8, pv_12, pi_9, pl_9, pv_13, pi_10, pl_10, pv_14, pi_11, pl_11, pv_15, pv_20, wi_0, wi_1, wl_1, wv_14, wi_2, wl_2, wv_15, wi_3, wl_3, wv_16, wi_4, wl_4, wv_17, wi_5, wl_5, wv_18, wv_21, pt_P, pt_v, pt_w, pt_SI, pt_SL, kM_SI, kM_SL, lI_SL, lV_SL, lK_SL, lN_SL, lL_SL, lIs_SL, nI_SI, nV_SI, nK_SI, nN_SI, nL_SI, nIs_SI, pp_c, pp_l, pp_r, pp_k, pp_k0, pp_j, pp_j0, isl]
  · funext q
    rw [nI_SI, if_neg (by omega)]
    show (if p + 9 = p + 10 ∧ _ then _ else mI H (p + 9) q) = _
    rw [if_neg (fun w => absurd w.1 (by omega))]
    exact congrFun mT.2.1 q
  · funext q
    rw [nI_SI, if_neg (by omega)]
    show (if p + 10 = p + 10 ∧ 5 * X.2.2.2.2.2.2.2.2.1 ≤ q ∧ q < 5 * X.2.2.2.2.2.2.2.2.1 + 5 then mI H A (0 + (q - 5 * X.2.2.2.2.2.2.2.2.1)) else mI H (p + 10) q) = cpF tp (5 * X.2.2.2.2.2.2.2.2.1) 5 (fun q => [s.2.2.1 (i0 + 2), s.2.2.1 (i0 + 3), wo, ki, ne].getD q 0) q
    rw [mT.2.2.1]
    unfold cpF
    by_cases z : 5 * X.2.2.2.2.2.2.2.2.1 ≤ q ∧ q < 5 * X.2.2.2.2.2.2.2.2.1 + 5
    · rw [if_pos ⟨rfl, z⟩, if_pos z, Nat.zero_add]
      obtain ⟨k, hk5, hkq⟩ : ∃ k, k < 5 ∧ q - 5 * X.2.2.2.2.2.2.2.2.1 = k := ⟨_, by omega, rfl⟩
      rw [hkq, hv0, hv1]
      match k, hk5 with
      | 0, _ => exact d0
      | 1, _ => exact d1
      | 2, _ => exact d2
      | 3, _ => exact d3
      | 4, _ => exact d4
    · rw [if_neg (fun w => z w.2), if_neg z]
  · funext q
    rw [nI_SI, if_neg (by omega)]
    show (if p + 11 = p + 10 ∧ _ then _ else mI H (p + 11) q) = _
    rw [if_neg (fun w => absurd w.1 (by omega))]
    exact congrFun mT.2.2.2 q
