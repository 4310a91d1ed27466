def shr (he : Int32) (n : Nat) : UInt64 := if n = 0 then FP.dconst0 else FP.ddiv (FP.i2d (bC he)) (FP.i2d (Int32.ofNat n))
theorem dd_nan {a b : Int32} (hb : b ≠ 0) : FP.Core.dIsNaN (FP.Core.ddiv (FP.Core.i2d a) (FP.Core.i2d b)) = false := by
  refine FP.Core.ddiv_out (FP.Core.DFin.notNaN (FP.Core.i2d_fin a)) (FP.Core.i2d_fin b) ?_
  rw [FP.Core.zero_bits2]
  exact FP.Core.i2d_ne_zero hb
theorem dd_ok {a b : Int32} (hb : b ≠ 0) : mOkD (FP.ddiv (FP.i2d a) (FP.i2d b)) = true := by
  have h1 := dd_nan (a := a) hb
  rw [FP.Core.notNaN_iff, FP.Core.ne_nan] at h1
  unfold mOkD
  rw [decide_eq_true_iff, UInt64.le_iff_toNat_le, FP.Core.mask_toNat]
  exact h1
theorem dd_eq {a b : Int32} (hb : b ≠ 0) : FP.dcmp (FP.ddiv (FP.i2d a) (FP.i2d b)) (FP.ddiv (FP.i2d a) (FP.i2d b)) = some .eq := by
  have h1 := dd_nan (a := a) hb
  rw [FP.Core.notNaN_iff] at h1
  exact FP.Core.dcmp_self h1
theorem d0_eq : FP.dcmp FP.dconst0 FP.dconst0 = some .eq := FP.Core.dcmp_self (a := FP.Core.dconst0) (by rw [FP.Core.val64_dconst0]; exact fun z => (by cases z))
theorem shr_eq {he : Int32} {n : Nat} (hn : n ≤ 1000) : FP.dcmp (shr he n) (shr he n) = some .eq := by
  unfold shr
  by_cases c : n = 0
  · rw [if_pos c]; exact d0_eq
  · rw [if_neg c]
    refine dd_eq ?_
    rw [show (0 : Int32) = Int32.ofNat 0 from rfl]
    intro z
    rw [i_ofeq (by omega) (by omega)] at z
    exact c z
theorem f_share {d : Nat} {h : mH} {t : Nat} {E : EV} {rn pn tn : List (List Int32)} {B : List Int32} {ep : Int32} {vs : List (Int32 × Int32 × Int32)} {hv : Bool} {K : VK} {S : VS} {ea : Bool} {P : List Int32} (m : gR h (t, E, rn, pn, tn, B, ep, vs, hv, K, S, ea, P)) : mCall (d + 4) 257 [.ref 200] h = some (.inl (some (.double (shr (vHe hv S) E.2.2.1.length))), h) := by
  have m0 := m
  obtain ⟨hk, ht, etx, e7, ev, l1, l2, l3⟩ := gR_t m
  obtain ⟨_, hE, hq, hn, hB, he, v1, v2, v3, hP, hV⟩ := m
  obtain ⟨hl, hh, hb⟩ := vL_log hk hV
  have e1 := f_text (d := d + 2) m0
  have e2 := (f_counts (d := d + 1) m0).2.1
  have hl16 := (f_lens m0).2.1
  have cy : (Int32.ofNat E.2.2.1.length = 0) = (E.2.2.1.length = 0) := by rw [show (0 : Int32) = Int32.ofNat 0 from rfl, i_ofeq (by omega) (by omega)]
  unfold shr
  by_cases c : E.2.2.1.length = 0
  · rw [if_pos c]
    have c' := eq_true c
    simp (maxDischargeDepth := 60) only [hk, x_257_0, x_257_1, x_257_4, x_257_7, x_257_10, x_257_11, x_257_12, x_257_15, x_257_16, x_257_17, x_257_18, x_257_21, x_257_24, x_257_27, x_257_30, x_257_31, x_257_32, x_257_33, x_257_34, c_257, e1, e2, e7, cy, c', Option.bind_some, mAft_n, mAft_v, mAft_x, mS_n, mS_i, mS_r, mS_l, mS_d, ne_eq, not_false_eq_true, not_true_eq_false, true_or, or_true, and_true, true_and, if_true, if_false, ite_true, ite_false, reduceIte, Nat.reduceAdd, Nat.reduceLeDiff, Nat.reduceEqDiff, false_and, and_false, or_false, false_or, eq_self, reduceCtorEq, kw_201, kw_204, kw_206, kw_208, kw_210, kw_212, kw_214, kw_217, kw_219, kw_222, kw_225, kw_227, kw_229, kw_231, kw_234, kw_236, kw_238, kw_240, kw_242, kw_244, kw_246, kw_248, kw_250, kw_252, kw_254, kw_256, kw_258, kw_260, kw_262, kw_264, kw_266, kw_270, kw_274, kw_277, kw_279, kw_281, kw_285, kw_288, kw_290, kw_292, kw_294, kw_296, kw_298, kw_300, kw_302, kw_304, kw_306, kw_308, kw_310, kw_312, kw_314, kn_201, kn_204, kn_206, kn_208, kn_210, kn_212, kn_214, kn_217, kn_219, kn_222, kn_225, kn_227, kn_229, kn_231, kn_234, kn_236, kn_238, kn_240, kn_242, kn_244, kn_246, kn_248, kn_250, kn_252, kn_254, kn_256, kn_258, kn_260, kn_262, kn_264, kn_266, kn_270, kn_274, kn_277, kn_279, kn_281, kn_285, kn_288, kn_290, kn_292, kn_294, kn_296, kn_298, kn_300, kn_302, kn_304, kn_306, kn_308, kn_310, kn_312, kn_314, kf_200, kf_203, kf_216, kf_221, kf_224, kf_233, kf_268, kf_269, kf_272, kf_273, kf_276, kf_283, kf_284, kf_287, ki_200, ki_203, ki_216, ki_221, ki_224, ki_233, ki_268, ki_269, ki_272, ki_273, ki_276, ki_283, ki_284, ki_287, kv_200_0, kv_200_1, kv_200_2, kv_200_3, kv_200_4, kv_200_5, kv_200_6, kv_200_7, kv_200_8, kv_200_9, kv_200_10, kv_200_11, kv_203_0, kv_203_1, kv_203_2, kv_203_3, kv_203_4, kv_203_5, kv_216_0, kv_216_1, kv_216_2, kv_221_0, kv_221_1, kv_221_3, kv_224_0, kv_224_1, kv_224_2, kv_224_3, kv_233_0, kv_233_1, kv_233_2, kv_233_3, kv_233_4, kv_233_5, kv_233_6, kv_233_7, kv_233_8, kv_233_9, kv_233_10, kv_233_11, kv_233_12, kv_233_13, kv_268_0, kv_268_1, kv_268_2, kv_272_0, kv_272_1, kv_272_2, kv_276_0, kv_276_1, kv_276_2, kv_276_3, kv_283_0, kv_283_1, kv_283_2, kv_287_0, kv_287_1, kv_287_2, kv_287_3, kv_287_4, kv_287_5, kv_287_6, kv_287_7, kv_287_8, kv_287_9, kv_287_10, kv_287_11, kv_287_12, kv_287_13, kS_A, kS_S, kS_C, kS_SI, mI_A, mI_S, mI_C, nI_SI, mV_A, mV_S, mV_C, nV_SI, mK_A, mK_S, mK_C, nK_SI, mN_A, mN_S, mN_C, nN_SI, mL_A, mL_S, mL_C, nL_SI, tx_A, tx_S, tx_C, tx_SI, tx_v, tx_w, mIs_A, mIs_S, mIs_C, nIs_SI, kS_row, kS_r4, r_size, r_get, r_set, r_add, r_cut, rL_A, rL_S, rL_C, rL_An, rL_Sn, rL_Cn, rL_SI, rN_A, rN_S, rN_C, rN_SI]
  · rw [if_neg c]
    have ok := dd_ok (a := bC (vHe hv S)) (b := Int32.ofNat E.2.2.1.length) (by intro z; rw [cy] at z; exact c z)
    simp (maxDischargeDepth := 60) only [hk, x_257_0, x_257_1, x_257_4, x_257_7, x_257_10, x_257_11, x_257_12, x_257_15, x_257_16, x_257_17, x_257_18, x_257_21, x_257_24, x_257_27, x_257_30, x_257_31, x_257_32, x_257_33, x_257_34, c_257, e1, e2, e7, cy, c, hh, b_count, ok, Option.bind_some, mAft_n, mAft_v, mAft_x, mS_n, mS_i, mS_r, mS_l, mS_d, ne_eq, not_false_eq_true, not_true_eq_false, true_or, or_true, and_true, true_and, if_true, if_false, ite_true, ite_false, reduceIte, Nat.reduceAdd, Nat.reduceLeDiff, Nat.reduceEqDiff, false_and, and_false, or_false, false_or, eq_self, reduceCtorEq, kw_201, kw_204, kw_206, kw_208, kw_210, kw_212, kw_214, kw_217, kw_219, kw_222, kw_225, kw_227, kw_229, kw_231, kw_234, kw_236, kw_238, kw_240, kw_242, kw_244, kw_246, kw_248, kw_250, kw_252, kw_254, kw_256, kw_258, kw_260, kw_262, kw_264, kw_266, kw_270, kw_274, kw_277, kw_279, kw_281, kw_285, kw_288, kw_290, kw_292, kw_294, kw_296, kw_298, kw_300, kw_302, kw_304, kw_306, kw_308, kw_310, kw_312, kw_314, kn_201, kn_204, kn_206, kn_208, kn_210, kn_212, kn_214, kn_217, kn_219, kn_222, kn_225, kn_227, kn_229, kn_231, kn_234, kn_236, kn_238, kn_240, kn_242, kn_244, kn_246, kn_248, kn_250, kn_252, kn_254, kn_256, kn_258, kn_260, kn_262, kn_264, kn_266, kn_270, kn_274, kn_277, kn_279, kn_281, kn_285, kn_288, kn_290, kn_292, kn_294, kn_296, kn_298, kn_300, kn_302, kn_304, kn_306, kn_308, kn_310, kn_312, kn_314, kf_200, kf_203, kf_216, kf_221, kf_224, kf_233, kf_268, kf_269, kf_272, kf_273, kf_276, kf_283, kf_284, kf_287, ki_200, ki_203, ki_216, ki_221, ki_224, ki_233, ki_268, ki_269, ki_272, ki_273, ki_276, ki_283, ki_284, ki_287, kv_200_0, kv_200_1, kv_200_2, kv_200_3, kv_200_4, kv_200_5, kv_200_6, kv_200_7, kv_200_8, kv_200_9, kv_200_10, kv_200_11, kv_203_0, kv_203_1, kv_203_2, kv_203_3, kv_203_4, kv_203_5, kv_216_0, kv_216_1, kv_216_2, kv_221_0, kv_221_1, kv_221_3, kv_224_0, kv_224_1, kv_224_2, kv_224_3, kv_233_0, kv_233_1, kv_233_2, kv_233_3, kv_233_4, kv_233_5, kv_233_6, kv_233_7, kv_233_8, kv_233_9, kv_233_10, kv_233_11, kv_233_12, kv_233_13, kv_268_0, kv_268_1, kv_268_2, kv_272_0, kv_272_1, kv_272_2, kv_276_0, kv_276_1, kv_276_2, kv_276_3, kv_283_0, kv_283_1, kv_283_2, kv_287_0, kv_287_1, kv_287_2, kv_287_3, kv_287_4, kv_287_5, kv_287_6, kv_287_7, kv_287_8, kv_287_9, kv_287_10, kv_287_11, kv_287_12, kv_287_13, kS_A, kS_S, kS_C, kS_SI, mI_A, mI_S, mI_C, nI_SI, mV_A, mV_S, mV_C, nV_SI, mK_A, mK_S, mK_C, nK_SI, mN_A, mN_S, mN_C, nN_SI, mL_A, mL_S, mL_C, nL_SI, tx_A, tx_S, tx_C, tx_SI, tx_v, tx_w, mIs_A, mIs_S, mIs_C, nIs_SI, kS_row, kS_r4, r_size, r_get, r_set, r_add, r_cut, rL_A, rL_S, rL_C, rL_An, rL_Sn, rL_Cn, rL_SI, rN_A, rN_S, rN_C, rN_SI]
