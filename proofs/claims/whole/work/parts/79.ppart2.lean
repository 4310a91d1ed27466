/-! THE REFERENCE'S PARSER: A PART'S WORTH -/
/-- events that came before -/
def pre (e0 : List EVt) : PR → PR
  | (l, none) => (l, none)
  | (l, some (c, e)) => (l, some (c, e0 ++ e))
theorem RH_pre {p j j' : Nat} {Q Q' : TS} {G H : mH} {t : Option mO} {e0 : List EVt} {r r' : PR} (hj : j < j') (hj4 : j' ≤ 402) (f : FT p (j' - j) G H) (hq : evTs Q e0 = Q') (hX : Q'.1.2.2.1 = Q.1.2.2.1) (g : RH p j' Q' H t r) (hr : r' = pre e0 r) : RH p j Q G t r' := by
  subst hr
  rcases r with ⟨l, _ | ⟨c, e⟩⟩
  · obtain ⟨K, a1, a2, a3, a4, a5⟩ := g
    refine ⟨K, a1, a2, a3, ?_, FT_mono (FT_trans f a5) (by omega)⟩
    rw [← hX]; exact a4
  · obtain ⟨K, a1, a2, a3, a5⟩ := g
    refine ⟨K, a1, ?_, by omega, FT_mono (FT_trans f a5) (by omega)⟩
    rw [evTs_app, hq]; exact a2
def pP2 (k : Nat → Nat) (i0 : Nat) : PA := fun i b => if k i = 6 then sq (tk k 6) (sq (nmk k 30 72) (pP3 k i0)) i b else pP3 k i0 i b
theorem r_p2 {D p j i0 A b : Nat} {Q : TS} {v0 v1 : Int32} {G : mH} (m : tS G p j Q) (a : pA G A v0 v1 Q.2.2.2.2.2.1 Q.2.2.2.2.2.2.1 Q.2.2.2.2.2.2.2) (hj0 : i0 + 3 < j) (hv0 : Q.2.1.2.2.1 (i0 + 2) = v0) (hv1 : Q.2.1.2.2.1 (i0 + 3) = v1) (hnp : Q.2.1.1 = 0 → Q.1.2.2.2.2.2.2.2.2.1 < 16) :
    RH p j Q G (mExec (mCall (D + 3)) 110 286 [some (.ref p), some (.long (Q.1.2.2.2.1 i0)), none, some (.ref A)] [] G) (pP2 Q.1.1 i0 j b) := by
  obtain ⟨X, s, td, tp, tt, wo, ki, ne⟩ := Q
  have z0 : (0 : Int32) = 0 ∨ (0 : Int32) = 1 := Or.inl rfl
  have z1 : (1 : Int32) = 0 ∨ (1 : Int32) = 1 := Or.inr rfl
  have n10 : ¬ (1 : Int32) = 0 := by decide
  have mt := m
  obtain ⟨m, t1, t2, t3⟩ := m
  dsimp only at m t1 t2 t3 a hv0 hv1 hnp
  obtain ⟨k1, k2, k3, k4, k5, hk, hp⟩ := pS_k m
  have hj402 : mIn (Int32.ofNat j) 402 = true := i_in (by rw [i_of_i (by omega)]; omega) (by rw [i_of_i (by omega)]; omega)
  have en : (Int32.ofNat j).toNatClampNeg = j := i_of_n (by omega)
  have w := pS_c m 6 6 (by decide) (by decide)
  show RH p j _ G _ (if X.1 j = 6 then sq (tk X.1 6) (sq (nmk X.1 30 72) (pP3 X.1 i0)) j b else pP3 X.1 i0 j b)
  by_cases g : X.1 j = 6
  case neg =>
    rw [if_neg g]
    have st : mExec (mCall (D + 3)) 110 286 [some (.ref p), some (.long (X.2.2.2.1 i0)), none, some (.ref A)] [] G = mExec (mCall (D + 3)) 110 336 [some (.ref p), some (.long (X.2.2.2.1 i0)), none, some (.ref A)] [] G := by
      rw [x_110_286]
      simp (maxDischargeDepth := 60) only [hk, x_110_0, x_110_1, x_110_1i, x_110_2, x_110_5, x_110_6, x_110_7, x_110_10, x_110_11, x_110_12, x_110_15, x_110_16, x_110_19, x_110_21, x_110_24, x_110_27, x_110_28, x_110_29, x_110_30, x_110_33, x_110_34, x_110_37, x_110_38, x_110_39, x_110_40, x_110_41, x_110_42, x_110_43, x_110_46, x_110_49, x_110_50, x_110_51, x_110_54, x_110_55, x_110_58, x_110_61, x_110_64, x_110_65, x_110_66, x_110_69, x_110_72, x_110_75, x_110_76, x_110_77, x_110_78, x_110_80, x_110_80i, x_110_81, x_110_82, x_110_83, x_110_86, x_110_87, x_110_90, x_110_91, x_110_92, x_110_93, x_110_94, x_110_94i, x_110_95, x_110_96, x_110_97, x_110_100, x_110_101, x_110_104, x_110_105, x_110_106, x_110_107, x_110_108, x_110_108i, x_110_109, x_110_110, x_110_111, x_110_112, x_110_112i, x_110_113, x_110_114, x_110_115, x_110_116, x_110_116i, x_110_117, x_110_118, x_110_119, x_110_120, x_110_121, x_110_122, x_110_125, x_110_126, x_110_129, x_110_130, x_110_131, x_110_134, x_110_135, x_110_135i, x_110_136, x_110_139, x_110_140, x_110_141, x_110_144, x_110_145, x_110_146, x_110_149, x_110_150, x_110_153, x_110_156, x_110_159, x_110_160, x_110_161, x_110_162, x_110_163, x_110_164, x_110_165, x_110_166, x_110_169, x_110_172, x_110_173, x_110_174, x_110_177, x_110_178, x_110_181, x_110_182, x_110_183, x_110_184, x_110_185, x_110_188, x_110_189, x_110_190, x_110_191, x_110_192, x_110_195, x_110_196, x_110_199, x_110_200, x_110_202, x_110_205, x_110_206, x_110_209, x_110_210, x_110_213, x_110_214, x_110_215, x_110_218, x_110_219, x_110_219i, x_110_220, x_110_223, x_110_224, x_110_225, x_110_228, x_110_229, x_110_232, x_110_233, x_110_236, x_110_237, x_110_239, x_110_242, x_110_243, x_110_246, x_110_247, x_110_250, x_110_251, x_110_253, x_110_256, x_110_257, x_110_260, x_110_261, x_110_262, x_110_263, x_110_264, x_110_267, x_110_268, x_110_271, x_110_272, x_110_274, x_110_275, x_110_276, x_110_277, x_110_277i, x_110_278, x_110_281, x_110_282, x_110_283, x_110_287, x_110_290, x_110_291, x_110_294, x_110_295, x_110_297, x_110_300, x_110_301, x_110_301i, x_110_302, x_110_305, x_110_306, x_110_307, x_110_310, x_110_311, x_110_312, x_110_314, x_110_317, x_110_320, x_110_321, x_110_322, x_110_323, x_110_324, x_110_325, x_110_328, x_110_329, x_110_332, x_110_333, x_110_334, x_110_335, x_110_337, x_110_339, x_110_342, x_110_345, x_110_346, x_110_347, x_110_348, x_110_351, x_110_354, x_110_355, x_110_356, x_110_357, x_110_358, x_110_359, x_110_362, x_110_363, x_110_364, x_110_367, x_110_368, x_110_369, x_110_372, x_110_373, x_110_376, x_110_377, x_110_380, x_110_381, x_110_382, x_110_383, x_110_383i, x_110_384, x_110_387, x_110_388, x_110_389, x_110_392, x_110_393, hp, k4, hj402, en, w, g, Option.bind_some, mAft_n, mAft_v, mAft_x, mS_n, mS_i, mS_r, mS_l, mS_d, ne_eq, not_false_eq_true, not_true_eq_false, true_or, or_true, and_true, true_and, if_true, if_false, ite_true, ite_false, reduceIte, Nat.reduceAdd, Nat.reduceLeDiff, Nat.reduceEqDiff, false_and, and_false, or_false, false_or, eq_self, reduceCtorEq, mi_316, mi_317, ml_317, mi_318, ml_318, mi_319, ml_319, mi_320, ml_320, mi_321, ml_321, mi_322, ml_322, mi_359, ml_359, mv_316_1, mv_316_4, mv_316_7, mv_316_8, mv_316_9, mv_316_10, mv_316_13, mv_316_14, mv_316_15, pi_0, pi_1, pl_1, pv_1, pi_2, pl_2, pv_2, pi_3, pl_3, pv_3, pi_4, pl_4, pv_4, pi_5, pl_5, pv_5, pi_6, pl_6, pv_10, pi_7, pl_7, pv_11, pi_8, pl_8, pv_12, pi_9, pl_9, pv_13, pi_10, pl_10, pv_14, pi_11, pl_11, pv_15, pv_20, wi_0, wi_1, wl_1, wv_14, wi_2, wl_2, wv_15, wi_3, wl_3, wv_16, wi_4, wl_4, wv_17, wi_5, wl_5, wv_18, wv_21, pt_P, pt_v, pt_w, pt_SI, pt_SL, kM_SI, kM_SL, lI_SL, lV_SL, lK_SL, lN_SL, lL_SL, lIs_SL, nI_SI, nV_SI, nK_SI, nN_SI, nL_SI, nIs_SI, pp_c, pp_l, pp_r, pp_k, pp_k0, pp_j, pp_j0, isl]
    show RH p j _ G (mExec (mCall (D + 3)) 110 286 [some (.ref p), some (.long (X.2.2.2.1 i0)), none, some (.ref A)] [] G) _
    rw [st]
    exact r_p3 (D := D) mt a hv0 hv1 hnp
  case pos =>
  rw [if_pos g]
  have g' := eq_true g
  obtain ⟨m1, f1⟩ := q_adv m (by omega)
  have hk1 := m1.1
  have num := q_num (D := D) (lo := 0) (hi := 99) m1
  have t6 : ∀ b, tk X.1 6 j b = (j + 1, some ([], [])) := fun b => by unfold tk; rw [if_pos g]
  by_cases g1 : X.1 (j + 1) = 30
  case neg =>
    obtain ⟨H, e, e1, e2, e3, e4⟩ := num.2 g1
    rw [sq_sn (t6 b) (sq_n (show nmk X.1 30 72 (j + 1) _ = (j + 1, none) by unfold nmk; rw [if_neg g1]))]
    refine ⟨H, ?_, e1, e2, e3, FT_mono (FT_Fr (Fr_trans f1 e4)) (by omega)⟩
    rw [x_110_286]
    simp (maxDischargeDepth := 60) only [hk, x_110_0, x_110_1, x_110_1i, x_110_2, x_110_5, x_110_6, x_110_7, x_110_10, x_110_11, x_110_12, x_110_15, x_110_16, x_110_19, x_110_21, x_110_24, x_110_27, x_110_28, x_110_29, x_110_30, x_110_33, x_110_34, x_110_37, x_110_38, x_110_39, x_110_40, x_110_41, x_110_42, x_110_43, x_110_46, x_110_49, x_110_50, x_110_51, x_110_54, x_110_55, x_110_58, x_110_61, x_110_64, x_110_65, x_110_66, x_110_69, x_110_72, x_110_75, x_110_76, x_110_77, x_110_78, x_110_80, x_110_80i, x_110_81, x_110_82, x_110_83, x_110_86, x_110_87, x_110_90, x_110_91, x_110_92, x_110_93, x_110_94, x_110_94i, x_110_95, x_110_96, x_110_97, x_110_100, x_110_101, x_110_104, x_110_105, x_110_106, x_110_107, x_110_108, x_110_108i, x_110_109, x_110_110, x_110_111, x_110_112, x_110_112i, x_110_113, x_110_114, x_110_115, x_110_116, x_110_116i, x_110_117, x_110_118, x_110_119, x_110_120, x_110_121, x_110_122, x_110_125, x_110_126, x_110_129, x_110_130, x_110_131, x_110_134, x_110_135, x_110_135i, x_110_136, x_110_139, x_110_140, x_110_141, x_110_144, x_110_145, x_110_146, x_110_149, x_110_150, x_110_153, x_110_156, x_110_159, x_110_160, x_110_161, x_110_162, x_110_163, x_110_164, x_110_165, x_110_166, x_110_169, x_110_172, x_110_173, x_110_174, x_110_177, x_110_178, x_110_181, x_110_182, x_110_183, x_110_184, x_110_185, x_110_188, x_110_189, x_110_190, x_110_191, x_110_192, x_110_195, x_110_196, x_110_199, x_110_200, x_110_202, x_110_205, x_110_206, x_110_209, x_110_210, x_110_213, x_110_214, x_110_215, x_110_218, x_110_219, x_110_219i, x_110_220, x_110_223, x_110_224, x_110_225, x_110_228, x_110_229, x_110_232, x_110_233, x_110_236, x_110_237, x_110_239, x_110_242, x_110_243, x_110_246, x_110_247, x_110_250, x_110_251, x_110_253, x_110_256, x_110_257, x_110_260, x_110_261, x_110_262, x_110_263, x_110_264, x_110_267, x_110_268, x_110_271, x_110_272, x_110_274, x_110_275, x_110_276, x_110_277, x_110_277i, x_110_278, x_110_281, x_110_282, x_110_283, x_110_287, x_110_290, x_110_291, x_110_294, x_110_295, x_110_297, x_110_300, x_110_301, x_110_301i, x_110_302, x_110_305, x_110_306, x_110_307, x_110_310, x_110_311, x_110_312, x_110_314, x_110_317, x_110_320, x_110_321, x_110_322, x_110_323, x_110_324, x_110_325, x_110_328, x_110_329, x_110_332, x_110_333, x_110_334, x_110_335, x_110_337, x_110_339, x_110_342, x_110_345, x_110_346, x_110_347, x_110_348, x_110_351, x_110_354, x_110_355, x_110_356, x_110_357, x_110_358, x_110_359, x_110_362, x_110_363, x_110_364, x_110_367, x_110_368, x_110_369, x_110_372, x_110_373, x_110_376, x_110_377, x_110_380, x_110_381, x_110_382, x_110_383, x_110_383i, x_110_384, x_110_387, x_110_388, x_110_389, x_110_392, x_110_393, hp, k4, hj402, en, w, g', i_succ, hk1, e, z0, Option.bind_some, mAft_n, mAft_v, mAft_x, mS_n, mS_i, mS_r, mS_l, mS_d, ne_eq, not_false_eq_true, not_true_eq_false, true_or, or_true, and_true, true_and, if_true, if_false, ite_true, ite_false, reduceIte, Nat.reduceAdd, Nat.reduceLeDiff, Nat.reduceEqDiff, false_and, and_false, or_false, false_or, eq_self, reduceCtorEq, mi_316, mi_317, ml_317, mi_318, ml_318, mi_319, ml_319, mi_320, ml_320, mi_321, ml_321, mi_322, ml_322, mi_359, ml_359, mv_316_1, mv_316_4, mv_316_7, mv_316_8, mv_316_9, mv_316_10, mv_316_13, mv_316_14, mv_316_15, pi_0, pi_1, pl_1, pv_1, pi_2, pl_2, pv_2, pi_3, pl_3, pv_3, pi_4, pl_4, pv_4, pi_5, pl_5, pv_5, pi_6, pl_6, pv_10, pi_7, pl_7, pv_11, pi_8, pl_8, pv_12, pi_9, pl_9, pv_13, pi_10, pl_10, pv_14, pi_11, pl_11, pv_15, pv_20, wi_0, wi_1, wl_1, wv_14, wi_2, wl_2, wv_15, wi_3, wl_3, wv_16, wi_4, wl_4, wv_17, wi_5, wl_5, wv_18, wv_21, pt_P, pt_v, pt_w, pt_SI, pt_SL, kM_SI, kM_SL, lI_SL, lV_SL, lK_SL, lN_SL, lL_SL, lIs_SL, nI_SI, nV_SI, nK_SI, nN_SI, nL_SI, nIs_SI, pp_c, pp_l, pp_r, pp_k, pp_k0, pp_j, pp_j0, isl]
  case pos =>
  obtain ⟨H, e, m2, f2⟩ := num.1 g1
  have F : Fr [p, p + 2, p + 4] G H := Fr_trans f1 f2
  have hk2 := m2.1
  have aH := pA_Fr hp a F
  have aI := pA_is aH
  have l4 := (pS_k m2).2.2.2.1
  have lt := (pS_k m2).2.2.1
  have q1 : Int32.ofNat (j + 1 + 1) - 1 = Int32.ofNat (j + 1) := by rw [show (1 : Int32) = Int32.ofNat 1 from rfl, i_subof (by omega)]; rfl
  have hj1 : mIn (Int32.ofNat (j + 1)) 402 = true := i_in (by rw [i_of_i (by omega)]; omega) (by rw [i_of_i (by omega)]; omega)
  have en1 : (Int32.ofNat (j + 1)).toNatClampNeg = j + 1 := i_of_n (by omega)
  have hs : ∀ s', sMn X s (j + 1) (!inR (s.2.2.1 (j + 1)) 0 99) 5 = s' → s'.2.2.1 = s.2.2.1 ∧ (s'.1 = 0 → s.1 = 0) := by
    intro s' h'
    subst h'
    refine ⟨?_, fun z => (sMn_1 (by decide) z).1⟩
    unfold sMn
    split <;> rfl
  obtain ⟨hs1, hs2⟩ := hs _ rfl
  have v2 : mI H (p + 2) (j + 1) = s.2.2.1 (j + 1) := by rw [m2.2.2.2.2.2.2.2.2.2.2.2.2.2.2.2.2.2.1, hs1]
  have mT := tS_pS mt m2 F
  have i2 : mIn 2 5 = true := by decide
  have c2 : (2 : Int32).toNatClampNeg = 2 := by decide
  have st : mExec (mCall (D + 3)) 110 286 [some (.ref p), some (.long (X.2.2.2.1 i0)), none, some (.ref A)] [] G = mExec (mCall (D + 3)) 110 336 [some (.ref p), some (.long (X.2.2.2.1 i0)), none, some (.ref A)] [] (mSI H A 2 (s.2.2.1 (j + 1))) := by
    rw [x_110_286]
    simp (maxDischargeDepth := 60) only [hk, x_110_0, x_110_1, x_110_1i, x_110_2, x_110_5, x_110_6, x_110_7, x_110_10, x_110_11, x_110_12, x_110_15, x_110_16, x_110_19, x_110_21, x_110_24, x_110_27, x_110_28, x_110_29, x_110_30, x_110_33, x_110_34, x_110_37, x_110_38, x_110_39, x_110_40, x_110_41, x_110_42, x_110_43, x_110_46, x_110_49, x_110_50, x_110_51, x_110_54, x_110_55, x_110_58, x_110_61, x_110_64, x_110_65, x_110_66, x_110_69, x_110_72, x_110_75, x_110_76, x_110_77, x_110_78, x_110_80, x_110_80i, x_110_81, x_110_82, x_110_83, x_110_86, x_110_87, x_110_90, x_110_91, x_110_92, x_110_93, x_110_94, x_110_94i, x_110_95, x_110_96, x_110_97, x_110_100, x_110_101, x_110_104, x_110_105, x_110_106, x_110_107, x_110_108, x_110_108i, x_110_109, x_110_110, x_110_111, x_110_112, x_110_112i, x_110_113, x_110_114, x_110_115, x_110_116, x_110_116i, x_110_117, x_110_118, x_110_119, x_110_120, x_110_121, x_110_122, x_110_125, x_110_126, x_110_129, x_110_130, x_110_131, x_110_134, x_110_135, x_110_135i, x_110_136, x_110_139, x_110_140, x_110_141, x_110_144, x_110_145, x_110_146, x_110_149, x_110_150, x_110_153, x_110_156, x_110_159, x_110_160, x_110_161, x_110_162, x_110_163, x_110_164, x_110_165, x_110_166, x_110_169, x_110_172, x_110_173, x_110_174, x_110_177, x_110_178, x_110_181, x_110_182, x_110_183, x_110_184, x_110_185, x_110_188, x_110_189, x_110_190, x_110_191, x_110_192, x_110_195, x_110_196, x_110_199, x_110_200, x_110_202, x_110_205, x_110_206, x_110_209, x_110_210, x_110_213, x_110_214, x_110_215, x_110_218, x_110_219, x_110_219i, x_110_220, x_110_223, x_110_224, x_110_225, x_110_228, x_110_229, x_110_232, x_110_233, x_110_236, x_110_237, x_110_239, x_110_242, x_110_243, x_110_246, x_110_247, x_110_250, x_110_251, x_110_253, x_110_256, x_110_257, x_110_260, x_110_261, x_110_262, x_110_263, x_110_264, x_110_267, x_110_268, x_110_271, x_110_272, x_110_274, x_110_275, x_110_276, x_110_277, x_110_277i, x_110_278, x_110_281, x_110_282, x_110_283, x_110_287, x_110_290, x_110_291, x_110_294, x_110_295, x_110_297, x_110_300, x_110_301, x_110_301i, x_110_302, x_110_305, x_110_306, x_110_307, x_110_310, x_110_311, x_110_312, x_110_314, x_110_317, x_110_320, x_110_321, x_110_322, x_110_323, x_110_324, x_110_325, x_110_328, x_110_329, x_110_332, x_110_333, x_110_334, x_110_335, x_110_337, x_110_339, x_110_342, x_110_345, x_110_346, x_110_347, x_110_348, x_110_351, x_110_354, x_110_355, x_110_356, x_110_357, x_110_358, x_110_359, x_110_362, x_110_363, x_110_364, x_110_367, x_110_368, x_110_369, x_110_372, x_110_373, x_110_376, x_110_377, x_110_380, x_110_381, x_110_382, x_110_383, x_110_383i, x_110_384, x_110_387, x_110_388, x_110_389, x_110_392, x_110_393, hp, k4, hj402, en, w, g', i_succ, hk1, e, hk2, n10, l4, q1, hj1, en1, v2, aI.1, aI.2, i2, c2, Option.bind_some, mAft_n, mAft_v, mAft_x, mS_n, mS_i, mS_r, mS_l, mS_d, ne_eq, not_false_eq_true, not_true_eq_false, true_or, or_true, and_true, true_and, if_true, if_false, ite_true, ite_false, reduceIte, Nat.reduceAdd, Nat.reduceLeDiff, Nat.reduceEqDiff, false_and, and_false, or_false, false_or, eq_self, reduceCtorEq, mi_316, mi_317, ml_317, mi_318, ml_318, mi_319, ml_319, mi_320, ml_320, mi_321, ml_321, mi_322, ml_322, mi_359, ml_359, mv_316_1, mv_316_4, mv_316_7, mv_316_8, mv_316_9, mv_316_10, mv_316_13, mv_316_14, mv_316_15, pi_0, pi_1, pl_1, pv_1, pi_2, pl_2, pv_2, pi_3, pl_3, pv_3, pi_4, pl_4, pv_4, pi_5, pl_5, pv_5, pi_6, pl_6, pv_10, pi_7, pl_7, pv_11, pi_8, pl_8, pv_12, pi_9, pl_9, pv_13, pi_10, pl_10, pv_14, pi_11, pl_11, pv_15, pv_20, wi_0, wi_1, wl_1, wv_14, wi_2, wl_2, wv_15, wi_3, wl_3, wv_16, wi_4, wl_4, wv_17, wi_5, wl_5, wv_18, wv_21, pt_P, pt_v, pt_w, pt_SI, pt_SL, kM_SI, kM_SL, lI_SL, lV_SL, lK_SL, lN_SL, lL_SL, lIs_SL, nI_SI, nV_SI, nK_SI, nN_SI, nL_SI, nIs_SI, pp_c, pp_l, pp_r, pp_k, pp_k0, pp_j, pp_j0, isl]
  have hA := a.1
  have mTo : tS (mSI H A 2 (s.2.2.1 (j + 1))) p (j + 1 + 1) (X, sMn X s (j + 1) (!inR (s.2.2.1 (j + 1)) 0 99) 5, td, tp, tt, s.2.2.1 (j + 1), ki, ne) := by
    refine ⟨pS_out m2 hA, ?_, ?_, ?_⟩
    · rw [mI_SI_other (by rcases hp with rfl | rfl <;> omega)]; exact mT.2.1
    · rw [mI_SI_other (by rcases hp with rfl | rfl <;> omega)]; exact mT.2.2.1
    · rw [mI_SI_other (by rcases hp with rfl | rfl <;> omega)]; exact mT.2.2.2
  have tail := r_p3 (D := D) (b := b + 0 + 0) (i0 := i0) mTo (pA_2 aH) (by dsimp only; rw [hs1]; exact hv0) (by dsimp only; rw [hs1]; exact hv1) (fun z => hnp (hs2 z))
  show RH p j _ G (mExec (mCall (D + 3)) 110 286 [some (.ref p), some (.long (X.2.2.2.1 i0)), none, some (.ref A)] [] G) _
  rw [st]
  refine RH_pre (j' := j + 1 + 1) (e0 := [(72, j + 1, 0)]) (by omega) (by omega) (FT_mono (FT_out (FT_Fr F) hA) (by omega)) rfl rfl tail ?_
  have nm : ∀ b, nmk X.1 30 72 (j + 1) b = (j + 2, some ([], [(72, j + 1, 0)])) := fun b => by unfold nmk; rw [if_pos g1]
  show _ = pre _ (pP3 X.1 i0 (j + 2) (b + 0 + 0))
  rcases h3 : pP3 X.1 i0 (j + 2) (b + 0 + 0) with ⟨l, _ | ⟨c, ee⟩⟩
  · rw [sq_sn (t6 b) (sq_sn (nm _) h3)]; rfl
  · rw [sq_ss (t6 b) (sq_ss (nm _) h3)]; rfl
