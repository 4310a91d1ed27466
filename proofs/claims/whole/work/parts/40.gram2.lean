theorem ofn_d {k : Nat} {x : Int32} (c : Nat) (hk : k < 1000) (hc : c < 1000) (e : x = Int32.ofNat c) : (Int32.ofNat k = x) = (k = c) := by
  rw [e, i_ofeq (by omega) (by omega)]
theorem g_rule {d : Nat} {h : mH} {s k : Nat} (h0 : 80 ≤ s) (hs : s < 100) (hk : k < 50) : mCall (d + 2) 66 [.int (Int32.ofNat s), .int (Int32.ofNat k)] h = some (.inl (some (.ref (rfN s k))), h) := by
  have z : ∀ {c : Nat} {x : Int32}, c < 1000 → x = Int32.ofNat c → (Int32.ofNat s = x) = (s = c) := fun hc e => ofn_d _ (by omega) hc e
  have y : ∀ {c : Nat} {x : Int32}, c < 1000 → x = Int32.ofNat c → (Int32.ofNat k = x) = (k = c) := fun hc e => ofn_d _ (by omega) hc e
  simp only [x_66_0, x_66_1, x_66_92, x_66_93, x_66_96, x_66_97, x_66_98, x_66_99, x_66_102, x_66_105, x_66_108, x_66_111, x_66_112, x_66_113, x_66_115, x_66_118, x_66_121, x_66_124, x_66_127, x_66_128, x_66_129, x_66_130, x_66_133, x_66_136, x_66_139, x_66_142, x_66_143, x_66_144, x_66_146, x_66_149, x_66_152, x_66_155, x_66_156, x_66_158, x_66_161, x_66_164, x_66_167, x_66_170, x_66_171, x_66_172, x_66_174, x_66_177, x_66_180, x_66_183, x_66_186, x_66_187, x_66_190, x_66_191, x_66_192, x_66_195, x_66_196, x_66_197, x_66_199, x_66_202, x_66_205, x_66_208, x_66_211, x_66_212, x_66_215, x_66_216, x_66_217, x_66_219, x_66_222, x_66_225, x_66_228, x_66_231, x_66_232, x_66_233, x_66_235, x_66_238, x_66_241, x_66_244, x_66_247, x_66_248, x_66_249, x_66_252, x_66_253, x_66_254, x_66_257, x_66_258, x_66_261, x_66_262, x_66_263, x_66_265, x_66_268, x_66_271, x_66_274, x_66_275, x_66_277, x_66_280, x_66_283, x_66_286, x_66_289, x_66_290, x_66_293, x_66_294, x_66_295, x_66_297, x_66_300, x_66_303, x_66_306, x_66_307, x_66_309, x_66_312, x_66_315, x_66_318, x_66_321, x_66_322, x_66_323, x_66_326, x_66_327, x_66_330, c_66, Option.bind_some, mAft_n, mAft_v, mAft_x, mS_n, mS_i, mS_r, mS_l, mS_d, ne_eq, not_false_eq_true, not_true_eq_false, true_or, or_true, and_true, true_and, if_true, if_false, ite_true, ite_false, reduceIte, Nat.reduceAdd, Nat.reduceLeDiff, Nat.reduceEqDiff, false_and, and_false, or_false, false_or, eq_self, reduceCtorEq, g_thg hk, g_snt hk, g_sgl hk, g_cmp hk, g_val hk,
    z (c := 80) (x := 80) (by omega) rfl, z (c := 81) (x := 81) (by omega) rfl, z (c := 82) (x := 82) (by omega) rfl, z (c := 83) (x := 83) (by omega) rfl, z (c := 84) (x := 84) (by omega) rfl, z (c := 85) (x := 85) (by omega) rfl, z (c := 86) (x := 86) (by omega) rfl, z (c := 87) (x := 87) (by omega) rfl, z (c := 88) (x := 88) (by omega) rfl, z (c := 89) (x := 89) (by omega) rfl, z (c := 90) (x := 90) (by omega) rfl, z (c := 91) (x := 91) (by omega) rfl, z (c := 92) (x := 92) (by omega) rfl, z (c := 93) (x := 93) (by omega) rfl, z (c := 94) (x := 94) (by omega) rfl, z (c := 95) (x := 95) (by omega) rfl, z (c := 96) (x := 96) (by omega) rfl, z (c := 97) (x := 97) (by omega) rfl, z (c := 98) (x := 98) (by omega) rfl,
    y (c := 4) (x := 4) (by omega) rfl, y (c := 5) (x := 5) (by omega) rfl, y (c := 6) (x := 6) (by omega) rfl, y (c := 7) (x := 7) (by omega) rfl, y (c := 8) (x := 8) (by omega) rfl, y (c := 15) (x := 15) (by omega) rfl, y (c := 25) (x := 25) (by omega) rfl, y (c := 26) (x := 26) (by omega) rfl, y (c := 38) (x := 38) (by omega) rfl, y (c := 39) (x := 39) (by omega) rfl, y (c := 40) (x := 40) (by omega) rfl, y (c := 41) (x := 41) (by omega) rfl, y (c := 42) (x := 42) (by omega) rfl]
  simp only [← ref_ite]
  refine congrArg (fun r => (some (Sum.inl (some (Value.ref r)), h) : Option mO)) ?_
  clear z y
  revert hk
  revert k
  revert h0
  revert hs
  revert s
  decide +kernel
theorem g_follow {d c : Nat} {h : mH} (h0 : 6 ≤ c) (h1 : c < 57) (hk : kS h) : mCall (d + 2) 67 [.ref 216, .ref c] h = some (.inl none, rAs h 217 ((rowN c).reverse.map Int32.ofNat)) := by
  have hl := (rowN_len c h1).1
  have hc2 : c < mNC := Nat.lt_trans h1 (by decide)
  have lp : ∀ (n : Nat) (h : mH), n ≤ (rowN c).length → kS h → mExec (mCall (d + 1)) 67 5 [some (.ref 216), some (.ref c), some (.int (Int32.ofNat n + (-1)))] [] h = some (.inl none, rAs h 217 (((rowN c).take n).reverse.map Int32.ofNat)) := by
    intro n
    induction n with
    | zero =>
      intro h hn hk
      have c1 : Int32.ofNat 0 + (-1) < 0 := by decide
      rw [x_67_5]
      simp (maxDischargeDepth := 60) only [hk, x_67_0, x_67_1, x_67_2, x_67_3, x_67_4, x_67_6, x_67_9, x_67_10, x_67_13, x_67_14, x_67_15, x_67_16, x_67_19, x_67_22, x_67_25, c1, Option.bind_some, mAft_n, mAft_v, mAft_x, mS_n, mS_i, mS_r, mS_l, mS_d, ne_eq, not_false_eq_true, not_true_eq_false, true_or, or_true, and_true, true_and, if_true, if_false, ite_true, ite_false, reduceIte, Nat.reduceAdd, Nat.reduceLeDiff, Nat.reduceEqDiff, false_and, and_false, or_false, false_or, eq_self, reduceCtorEq, kw_201, kw_204, kw_206, kw_208, kw_210, kw_212, kw_214, kw_217, kw_219, kw_222, kw_225, kw_227, kw_229, kw_231, kw_234, kw_236, kw_238, kw_240, kw_242, kw_244, kw_246, kw_248, kw_250, kw_252, kw_254, kw_256, kw_258, kw_260, kw_262, kw_264, kw_266, kw_270, kw_274, kw_277, kw_279, kw_281, kw_285, kw_288, kw_290, kw_292, kw_294, kw_296, kw_298, kw_300, kw_302, kw_304, kw_306, kw_308, kw_310, kw_312, kw_314, kn_201, kn_204, kn_206, kn_208, kn_210, kn_212, kn_214, kn_217, kn_219, kn_222, kn_225, kn_227, kn_229, kn_231, kn_234, kn_236, kn_238, kn_240, kn_242, kn_244, kn_246, kn_248, kn_250, kn_252, kn_254, kn_256, kn_258, kn_260, kn_262, kn_264, kn_266, kn_270, kn_274, kn_277, kn_279, kn_281, kn_285, kn_288, kn_290, kn_292, kn_294, kn_296, kn_298, kn_300, kn_302, kn_304, kn_306, kn_308, kn_310, kn_312, kn_314, kf_200, kf_203, kf_216, kf_221, kf_224, kf_233, kf_268, kf_269, kf_272, kf_273, kf_276, kf_283, kf_284, kf_287, ki_200, ki_203, ki_216, ki_221, ki_224, ki_233, ki_268, ki_269, ki_272, ki_273, ki_276, ki_283, ki_284, ki_287, kv_200_0, kv_200_1, kv_200_2, kv_200_3, kv_200_4, kv_200_5, kv_200_6, kv_200_7, kv_200_8, kv_200_9, kv_200_10, kv_200_11, kv_203_0, kv_203_1, kv_203_2, kv_203_3, kv_203_4, kv_203_5, kv_216_0, kv_216_1, kv_216_2, kv_221_0, kv_221_1, kv_221_3, kv_224_0, kv_224_1, kv_224_2, kv_224_3, kv_233_0, kv_233_1, kv_233_2, kv_233_3, kv_233_4, kv_233_5, kv_233_6, kv_233_7, kv_233_8, kv_233_9, kv_233_10, kv_233_11, kv_233_12, kv_233_13, kv_268_0, kv_268_1, kv_268_2, kv_272_0, kv_272_1, kv_272_2, kv_276_0, kv_276_1, kv_276_2, kv_276_3, kv_283_0, kv_283_1, kv_283_2, kv_287_0, kv_287_1, kv_287_2, kv_287_3, kv_287_4, kv_287_5, kv_287_6, kv_287_7, kv_287_8, kv_287_9, kv_287_10, kv_287_11, kv_287_12, kv_287_13, kS_A, kS_S, kS_C, kS_SI, mI_A, mI_S, mI_C, nI_SI, mV_A, mV_S, mV_C, nV_SI, mK_A, mK_S, mK_C, nK_SI, mN_A, mN_S, mN_C, nN_SI, mL_A, mL_S, mL_C, nL_SI, tx_A, tx_S, tx_C, tx_SI, tx_v, tx_w, mIs_A, mIs_S, mIs_C, nIs_SI, kS_row, kS_r4, r_size, r_get, r_set, r_add, r_cut, rL_A, rL_S, rL_C, rL_An, rL_Sn, rL_Cn, rL_SI, rN_A, rN_S, rN_C, rN_SI]
      rfl
    | succ n ih =>
      intro h hn hk
      have e0 : Int32.ofNat (n + 1) + (-1) = Int32.ofNat n := by
        rw [← i_succ, Int32.add_assoc, show (1 : Int32) + -1 = 0 from by decide, Int32.add_zero]
      have c1 : ¬ Int32.ofNat n < 0 := by rw [show (0 : Int32) = Int32.ofNat 0 from rfl, i_oflt (by omega) (by omega)]; omega
      have hj : mIn (Int32.ofNat n) (rowN c).length = true := i_in (by rw [i_of_i (by omega)]; omega) (by rw [i_of_i (by omega)]; omega)
      have hv : ((rowN c).map (fun n => Value.int (Int32.ofNat n))).getD (Int32.ofNat n).toNatClampNeg .null = .int (Int32.ofNat ((rowN c).getD n 0)) := by
        rw [i_of_n (by omega), List.getD_eq_getElem?_getD, List.getElem?_map, List.getD_eq_getElem?_getD, List.getElem?_eq_getElem (by omega)]; rfl
      have et : ((rowN c).take (n + 1)).reverse = (rowN c).getD n 0 :: ((rowN c).take n).reverse := by
        rw [List.take_add_one, List.reverse_append, List.getD_eq_getElem?_getD, List.getElem?_eq_getElem (by omega)]; rfl
      have i1 := ih (rA h 217 (Int32.ofNat ((rowN c).getD n 0))) (by omega) (kS_A hk kw_217)
      rw [e0, x_67_5, x_67_6, if_neg c1]
      simp (maxDischargeDepth := 60) only [hk, x_67_9, x_67_10, x_67_13, x_67_14, Option.bind_some, mAft_n, mAft_v, mAft_x, mS_n, mS_i, mS_r, mS_l, mS_d, ne_eq, not_false_eq_true, not_true_eq_false, true_or, or_true, and_true, true_and, if_true, if_false, ite_true, ite_false, reduceIte, Nat.reduceAdd, Nat.reduceLeDiff, Nat.reduceEqDiff, false_and, and_false, or_false, false_or, eq_self, reduceCtorEq, kw_201, kw_204, kw_206, kw_208, kw_210, kw_212, kw_214, kw_217, kw_219, kw_222, kw_225, kw_227, kw_229, kw_231, kw_234, kw_236, kw_238, kw_240, kw_242, kw_244, kw_246, kw_248, kw_250, kw_252, kw_254, kw_256, kw_258, kw_260, kw_262, kw_264, kw_266, kw_270, kw_274, kw_277, kw_279, kw_281, kw_285, kw_288, kw_290, kw_292, kw_294, kw_296, kw_298, kw_300, kw_302, kw_304, kw_306, kw_308, kw_310, kw_312, kw_314, kn_201, kn_204, kn_206, kn_208, kn_210, kn_212, kn_214, kn_217, kn_219, kn_222, kn_225, kn_227, kn_229, kn_231, kn_234, kn_236, kn_238, kn_240, kn_242, kn_244, kn_246, kn_248, kn_250, kn_252, kn_254, kn_256, kn_258, kn_260, kn_262, kn_264, kn_266, kn_270, kn_274, kn_277, kn_279, kn_281, kn_285, kn_288, kn_290, kn_292, kn_294, kn_296, kn_298, kn_300, kn_302, kn_304, kn_306, kn_308, kn_310, kn_312, kn_314, kf_200, kf_203, kf_216, kf_221, kf_224, kf_233, kf_268, kf_269, kf_272, kf_273, kf_276, kf_283, kf_284, kf_287, ki_200, ki_203, ki_216, ki_221, ki_224, ki_233, ki_268, ki_269, ki_272, ki_273, ki_276, ki_283, ki_284, ki_287, kv_200_0, kv_200_1, kv_200_2, kv_200_3, kv_200_4, kv_200_5, kv_200_6, kv_200_7, kv_200_8, kv_200_9, kv_200_10, kv_200_11, kv_203_0, kv_203_1, kv_203_2, kv_203_3, kv_203_4, kv_203_5, kv_216_0, kv_216_1, kv_216_2, kv_221_0, kv_221_1, kv_221_3, kv_224_0, kv_224_1, kv_224_2, kv_224_3, kv_233_0, kv_233_1, kv_233_2, kv_233_3, kv_233_4, kv_233_5, kv_233_6, kv_233_7, kv_233_8, kv_233_9, kv_233_10, kv_233_11, kv_233_12, kv_233_13, kv_268_0, kv_268_1, kv_268_2, kv_272_0, kv_272_1, kv_272_2, kv_276_0, kv_276_1, kv_276_2, kv_276_3, kv_283_0, kv_283_1, kv_283_2, kv_287_0, kv_287_1, kv_287_2, kv_287_3, kv_287_4, kv_287_5, kv_287_6, kv_287_7, kv_287_8, kv_287_9, kv_287_10, kv_287_11, kv_287_12, kv_287_13, kS_A, kS_S, kS_C, kS_SI, mI_A, mI_S, mI_C, nI_SI, mV_A, mV_S, mV_C, nV_SI, mK_A, mK_S, mK_C, nK_SI, mN_A, mN_S, mN_C, nN_SI, mL_A, mL_S, mL_C, nL_SI, tx_A, tx_S, tx_C, tx_SI, tx_v, tx_w, mIs_A, mIs_S, mIs_C, nIs_SI, kS_row, kS_r4, r_size, r_get, r_set, r_add, r_cut, rL_A, rL_S, rL_C, rL_An, rL_Sn, rL_Cn, rL_SI, rN_A, rN_S, rN_C, rN_SI]
      rw [e_ca (show mIns 67 15 = some (.iaload, 1, []) by decide +kernel) (Or.inl ⟨rfl, rfl⟩) hc2 (rowN_ca h0 h1) rfl hj]
      simp (maxDischargeDepth := 60) only [hv, hk, x_67_16, x_67_19, x_67_22, Option.bind_some, mAft_n, mAft_v, mAft_x, mS_n, mS_i, mS_r, mS_l, mS_d, ne_eq, not_false_eq_true, not_true_eq_false, true_or, or_true, and_true, true_and, if_true, if_false, ite_true, ite_false, reduceIte, Nat.reduceAdd, Nat.reduceLeDiff, Nat.reduceEqDiff, false_and, and_false, or_false, false_or, eq_self, reduceCtorEq, kw_201, kw_204, kw_206, kw_208, kw_210, kw_212, kw_214, kw_217, kw_219, kw_222, kw_225, kw_227, kw_229, kw_231, kw_234, kw_236, kw_238, kw_240, kw_242, kw_244, kw_246, kw_248, kw_250, kw_252, kw_254, kw_256, kw_258, kw_260, kw_262, kw_264, kw_266, kw_270, kw_274, kw_277, kw_279, kw_281, kw_285, kw_288, kw_290, kw_292, kw_294, kw_296, kw_298, kw_300, kw_302, kw_304, kw_306, kw_308, kw_310, kw_312, kw_314, kn_201, kn_204, kn_206, kn_208, kn_210, kn_212, kn_214, kn_217, kn_219, kn_222, kn_225, kn_227, kn_229, kn_231, kn_234, kn_236, kn_238, kn_240, kn_242, kn_244, kn_246, kn_248, kn_250, kn_252, kn_254, kn_256, kn_258, kn_260, kn_262, kn_264, kn_266, kn_270, kn_274, kn_277, kn_279, kn_281, kn_285, kn_288, kn_290, kn_292, kn_294, kn_296, kn_298, kn_300, kn_302, kn_304, kn_306, kn_308, kn_310, kn_312, kn_314, kf_200, kf_203, kf_216, kf_221, kf_224, kf_233, kf_268, kf_269, kf_272, kf_273, kf_276, kf_283, kf_284, kf_287, ki_200, ki_203, ki_216, ki_221, ki_224, ki_233, ki_268, ki_269, ki_272, ki_273, ki_276, ki_283, ki_284, ki_287, kv_200_0, kv_200_1, kv_200_2, kv_200_3, kv_200_4, kv_200_5, kv_200_6, kv_200_7, kv_200_8, kv_200_9, kv_200_10, kv_200_11, kv_203_0, kv_203_1, kv_203_2, kv_203_3, kv_203_4, kv_203_5, kv_216_0, kv_216_1, kv_216_2, kv_221_0, kv_221_1, kv_221_3, kv_224_0, kv_224_1, kv_224_2, kv_224_3, kv_233_0, kv_233_1, kv_233_2, kv_233_3, kv_233_4, kv_233_5, kv_233_6, kv_233_7, kv_233_8, kv_233_9, kv_233_10, kv_233_11, kv_233_12, kv_233_13, kv_268_0, kv_268_1, kv_268_2, kv_272_0, kv_272_1, kv_272_2, kv_276_0, kv_276_1, kv_276_2, kv_276_3, kv_283_0, kv_283_1, kv_283_2, kv_287_0, kv_287_1, kv_287_2, kv_287_3, kv_287_4, kv_287_5, kv_287_6, kv_287_7, kv_287_8, kv_287_9, kv_287_10, kv_287_11, kv_287_12, kv_287_13, kS_A, kS_S, kS_C, kS_SI, mI_A, mI_S, mI_C, nI_SI, mV_A, mV_S, mV_C, nV_SI, mK_A, mK_S, mK_C, nK_SI, mN_A, mN_S, mN_C, nN_SI, mL_A, mL_S, mL_C, nL_SI, tx_A, tx_S, tx_C, tx_SI, tx_v, tx_w, mIs_A, mIs_S, mIs_C, nIs_SI, kS_row, kS_r4, r_size, r_get, r_set, r_add, r_cut, rL_A, rL_S, rL_C, rL_An, rL_Sn, rL_Cn, rL_SI, rN_A, rN_S, rN_C, rN_SI]
      rw [i1, et]
      rfl
  have := lp (rowN c).length h (Nat.le_refl _) hk
  rw [List.take_length] at this
  rw [c_67, x_67_0, e_cl (show mIns 67 1 = some (.arraylength, 1, []) by decide +kernel) hc2 (rowN_ca h0 h1)]
  simp only [Nat.reduceAdd, x_67_2, x_67_3, x_67_4]
  rw [List.map_reverse] at this ⊢
  rw [← this, Int32.sub_eq_add_neg]
def gF (h : mH) (due : Int32) : Bool := !decide (lg (rL h 204) (mI h 216 3) = due)
theorem g_take {d : Nat} {h : mH} {due : Int32} (hk : kS h) : mCall (d + 2) 68 [.ref 216, .int due] h = some (.inl none, mSI (mSI h 216 5 (bz (gF h due))) 216 3 (mI h 216 3 + (if gF h due = true then 0 else 1))) := by
  have z0 : (0 : Int32) = 0 ∨ (0 : Int32) = 1 := Or.inl rfl
  have z1 : (1 : Int32) = 0 ∨ (1 : Int32) = 1 := Or.inr rfl
  have n10 : ¬ (1 : Int32) = 0 := by decide
  have n53 : ¬ (3 : Nat) = 5 := by decide
  unfold gF
  by_cases c : lg (rL h 204) (mI h 216 3) = due
  · have e : (!decide (lg (rL h 204) (mI h 216 3) = due)) = false := by simp [c]
    rw [e]
    simp (maxDischargeDepth := 60) only [hk, x_68_0, x_68_1, x_68_2, x_68_5, x_68_8, x_68_9, x_68_12, x_68_15, x_68_16, x_68_19, x_68_20, x_68_23, x_68_24, x_68_27, x_68_28, x_68_28i, x_68_29, x_68_32, x_68_33, x_68_36, x_68_39, x_68_40, x_68_43, x_68_44, x_68_45, x_68_48, c_68, c, z0, z1, bz, Bool.false_eq_true, Option.bind_some, mAft_n, mAft_v, mAft_x, mS_n, mS_i, mS_r, mS_l, mS_d, ne_eq, not_false_eq_true, not_true_eq_false, true_or, or_true, and_true, true_and, if_true, if_false, ite_true, ite_false, reduceIte, Nat.reduceAdd, Nat.reduceLeDiff, Nat.reduceEqDiff, false_and, and_false, or_false, false_or, eq_self, reduceCtorEq, kw_201, kw_204, kw_206, kw_208, kw_210, kw_212, kw_214, kw_217, kw_219, kw_222, kw_225, kw_227, kw_229, kw_231, kw_234, kw_236, kw_238, kw_240, kw_242, kw_244, kw_246, kw_248, kw_250, kw_252, kw_254, kw_256, kw_258, kw_260, kw_262, kw_264, kw_266, kw_270, kw_274, kw_277, kw_279, kw_281, kw_285, kw_288, kw_290, kw_292, kw_294, kw_296, kw_298, kw_300, kw_302, kw_304, kw_306, kw_308, kw_310, kw_312, kw_314, kn_201, kn_204, kn_206, kn_208, kn_210, kn_212, kn_214, kn_217, kn_219, kn_222, kn_225, kn_227, kn_229, kn_231, kn_234, kn_236, kn_238, kn_240, kn_242, kn_244, kn_246, kn_248, kn_250, kn_252, kn_254, kn_256, kn_258, kn_260, kn_262, kn_264, kn_266, kn_270, kn_274, kn_277, kn_279, kn_281, kn_285, kn_288, kn_290, kn_292, kn_294, kn_296, kn_298, kn_300, kn_302, kn_304, kn_306, kn_308, kn_310, kn_312, kn_314, kf_200, kf_203, kf_216, kf_221, kf_224, kf_233, kf_268, kf_269, kf_272, kf_273, kf_276, kf_283, kf_284, kf_287, ki_200, ki_203, ki_216, ki_221, ki_224, ki_233, ki_268, ki_269, ki_272, ki_273, ki_276, ki_283, ki_284, ki_287, kv_200_0, kv_200_1, kv_200_2, kv_200_3, kv_200_4, kv_200_5, kv_200_6, kv_200_7, kv_200_8, kv_200_9, kv_200_10, kv_200_11, kv_203_0, kv_203_1, kv_203_2, kv_203_3, kv_203_4, kv_203_5, kv_216_0, kv_216_1, kv_216_2, kv_221_0, kv_221_1, kv_221_3, kv_224_0, kv_224_1, kv_224_2, kv_224_3, kv_233_0, kv_233_1, kv_233_2, kv_233_3, kv_233_4, kv_233_5, kv_233_6, kv_233_7, kv_233_8, kv_233_9, kv_233_10, kv_233_11, kv_233_12, kv_233_13, kv_268_0, kv_268_1, kv_268_2, kv_272_0, kv_272_1, kv_272_2, kv_276_0, kv_276_1, kv_276_2, kv_276_3, kv_283_0, kv_283_1, kv_283_2, kv_287_0, kv_287_1, kv_287_2, kv_287_3, kv_287_4, kv_287_5, kv_287_6, kv_287_7, kv_287_8, kv_287_9, kv_287_10, kv_287_11, kv_287_12, kv_287_13, kS_A, kS_S, kS_C, kS_SI, mI_A, mI_S, mI_C, nI_SI, mV_A, mV_S, mV_C, nV_SI, mK_A, mK_S, mK_C, nK_SI, mN_A, mN_S, mN_C, nN_SI, mL_A, mL_S, mL_C, nL_SI, tx_A, tx_S, tx_C, tx_SI, tx_v, tx_w, mIs_A, mIs_S, mIs_C, nIs_SI, kS_row, kS_r4, r_size, r_get, r_set, r_add, r_cut, rL_A, rL_S, rL_C, rL_An, rL_Sn, rL_Cn, rL_SI, rN_A, rN_S, rN_C, rN_SI]
  · have e : (!decide (lg (rL h 204) (mI h 216 3) = due)) = true := by simp [c]
    rw [e]
    simp (maxDischargeDepth := 60) only [hk, x_68_0, x_68_1, x_68_2, x_68_5, x_68_8, x_68_9, x_68_12, x_68_15, x_68_16, x_68_19, x_68_20, x_68_23, x_68_24, x_68_27, x_68_28, x_68_28i, x_68_29, x_68_32, x_68_33, x_68_36, x_68_39, x_68_40, x_68_43, x_68_44, x_68_45, x_68_48, c_68, c, z0, z1, n10, bz, Option.bind_some, mAft_n, mAft_v, mAft_x, mS_n, mS_i, mS_r, mS_l, mS_d, ne_eq, not_false_eq_true, not_true_eq_false, true_or, or_true, and_true, true_and, if_true, if_false, ite_true, ite_false, reduceIte, Nat.reduceAdd, Nat.reduceLeDiff, Nat.reduceEqDiff, false_and, and_false, or_false, false_or, eq_self, reduceCtorEq, kw_201, kw_204, kw_206, kw_208, kw_210, kw_212, kw_214, kw_217, kw_219, kw_222, kw_225, kw_227, kw_229, kw_231, kw_234, kw_236, kw_238, kw_240, kw_242, kw_244, kw_246, kw_248, kw_250, kw_252, kw_254, kw_256, kw_258, kw_260, kw_262, kw_264, kw_266, kw_270, kw_274, kw_277, kw_279, kw_281, kw_285, kw_288, kw_290, kw_292, kw_294, kw_296, kw_298, kw_300, kw_302, kw_304, kw_306, kw_308, kw_310, kw_312, kw_314, kn_201, kn_204, kn_206, kn_208, kn_210, kn_212, kn_214, kn_217, kn_219, kn_222, kn_225, kn_227, kn_229, kn_231, kn_234, kn_236, kn_238, kn_240, kn_242, kn_244, kn_246, kn_248, kn_250, kn_252, kn_254, kn_256, kn_258, kn_260, kn_262, kn_264, kn_266, kn_270, kn_274, kn_277, kn_279, kn_281, kn_285, kn_288, kn_290, kn_292, kn_294, kn_296, kn_298, kn_300, kn_302, kn_304, kn_306, kn_308, kn_310, kn_312, kn_314, kf_200, kf_203, kf_216, kf_221, kf_224, kf_233, kf_268, kf_269, kf_272, kf_273, kf_276, kf_283, kf_284, kf_287, ki_200, ki_203, ki_216, ki_221, ki_224, ki_233, ki_268, ki_269, ki_272, ki_273, ki_276, ki_283, ki_284, ki_287, kv_200_0, kv_200_1, kv_200_2, kv_200_3, kv_200_4, kv_200_5, kv_200_6, kv_200_7, kv_200_8, kv_200_9, kv_200_10, kv_200_11, kv_203_0, kv_203_1, kv_203_2, kv_203_3, kv_203_4, kv_203_5, kv_216_0, kv_216_1, kv_216_2, kv_221_0, kv_221_1, kv_221_3, kv_224_0, kv_224_1, kv_224_2, kv_224_3, kv_233_0, kv_233_1, kv_233_2, kv_233_3, kv_233_4, kv_233_5, kv_233_6, kv_233_7, kv_233_8, kv_233_9, kv_233_10, kv_233_11, kv_233_12, kv_233_13, kv_268_0, kv_268_1, kv_268_2, kv_272_0, kv_272_1, kv_272_2, kv_276_0, kv_276_1, kv_276_2, kv_276_3, kv_283_0, kv_283_1, kv_283_2, kv_287_0, kv_287_1, kv_287_2, kv_287_3, kv_287_4, kv_287_5, kv_287_6, kv_287_7, kv_287_8, kv_287_9, kv_287_10, kv_287_11, kv_287_12, kv_287_13, kS_A, kS_S, kS_C, kS_SI, mI_A, mI_S, mI_C, nI_SI, mV_A, mV_S, mV_C, nV_SI, mK_A, mK_S, mK_C, nK_SI, mN_A, mN_S, mN_C, nN_SI, mL_A, mL_S, mL_C, nL_SI, tx_A, tx_S, tx_C, tx_SI, tx_v, tx_w, mIs_A, mIs_S, mIs_C, nIs_SI, kS_row, kS_r4, r_size, r_get, r_set, r_add, r_cut, rL_A, rL_S, rL_C, rL_An, rL_Sn, rL_Cn, rL_SI, rN_A, rN_S, rN_C, rN_SI]
/-! THE GRAMMAR AS A MACHINE OF ITS OWN -/
/-- goals (the next one first), holes, next, depth, failed, roles, places, operations, operands -/
abbrev GM : Type := List Nat × List Int32 × Nat × Int32 × Bool × List Int32 × List Int32 × List Int32 × List Int32
def gP (gs : List Nat) (r : List Nat) : List Nat := r.foldr (fun x gs => if gs.length < 200 then x :: gs else gs) gs
def gTake (kd : List Nat) (due : Nat) : GM → GM
  | (gs, hs, nx, dp, _, ro, pc, os, od) => (gs, hs, if kd.getD nx 0 = due then nx + 1 else nx, dp, !decide (kd.getD nx 0 = due), ro, pc, os, od)
def gAct (g : Nat) : GM → GM
  | (gs, hs, nx, dp, fl, ro, pc, os, od) =>
    if g = 100 then (gs, hs, nx, dp + 1, decide (8 ≤ dp), ro, pc, os, od)
    else if g = 101 then (gs, hs, nx, dp - 1, fl, ro, pc, os, od)
    else if g = 102 then (gs, if hs.length < 10 then (Int32.ofNat os.length - 1) :: hs else hs, nx, dp, fl, ro, pc, os, od)
    else if g = 103 then (gs, hs.tail, nx, dp, fl, ro, pc, os, ls od (hs.headD 0) (Int32.ofNat os.length))
    else (gs, hs.tail, nx, dp, fl, ro, pc, la 400 os 8, ls (la 400 od (hs.headD 0)) (hs.headD 0) (Int32.ofNat (la 400 os 8).length))
def gRole (kd : List Nat) (g : Nat) : GM → GM
  | (gs, hs, nx, dp, fl, ro, pc, os, od) => gTake kd (if 70 ≤ g then 30 else 29) (gs, hs, nx, dp, fl, ls ro (Int32.ofNat nx) (Int32.ofNat g), ls pc (Int32.ofNat nx) (if g = 66 then Int32.ofNat os.length else Int32.ofNat os.length - 1), os, od)
def gD (kd : List Nat) (g : Nat) : GM → GM
  | (gs, hs, nx, dp, fl, ro, pc, os, od) =>
    if 110 ≤ g then (gs, hs, nx, dp, fl, ro, pc, la 400 os (Int32.ofNat (g - 110)), la 400 od 0)
    else if 100 ≤ g then gAct g (gs, hs, nx, dp, fl, ro, pc, os, od)
    else if 80 ≤ g then (gP gs (rlN g (kd.getD nx 0)), hs, nx, dp, fl, ro, pc, os, od)
    else if 60 ≤ g then gRole kd g (gs, hs, nx, dp, fl, ro, pc, os, od)
    else gTake kd g (gs, hs, nx, dp, fl, ro, pc, os, od)
def gS (kd : List Nat) : GM → GM
  | ([], r) => ([], r)
  | (g :: gs, r) => gD kd g (gs, r)
def kdOK (kd : List Nat) : Prop := (∀ k, k ∈ kd → k < 50) ∧ kd.length ≤ 401
def gmR (h : mH) (u : Nat) (kd : List Nat) : GM → Prop
  | (gs, hs, nx, dp, fl, ro, pc, os, od) => kS h ∧ rL h 204 = kd.map Int32.ofNat ∧ rL h 217 = gs.reverse.map Int32.ofNat ∧ (∀ g, g ∈ gs → g ≤ 142) ∧ rL h 219 = hs.reverse ∧ mI h 216 3 = Int32.ofNat nx ∧ mI h 216 4 = dp ∧ mI h 216 5 = bz fl ∧ rL h 212 = ro ∧ rL h 214 = pc ∧ rL h (u + 25) = os ∧ rL h (u + 27) = od
def Wg (u : Nat) : List Nat := [216, 217, 218, 219, 220, 212, 213, 214, 215, u + 25, u + 26, u + 27, u + 28]
theorem kd_get {kd : List Nat} (h : kdOK kd) (i : Nat) : kd.getD i 0 < 50 := by
  by_cases c : i < kd.length
  · refine h.1 _ ?_
    rw [List.getD_eq_getElem?_getD, List.getElem?_eq_getElem c]
    exact List.getElem_mem c
  · rw [List.getD_eq_getElem?_getD, List.getElem?_eq_none (by omega)]; decide
theorem lg_kd {kd : List Nat} {i : Nat} (hi : i ≤ 1000000) : lg (kd.map Int32.ofNat) (Int32.ofNat i) = Int32.ofNat (kd.getD i 0) := by
  rw [lg_of hi, List.getD_eq_getElem?_getD, List.getElem?_map, List.getD_eq_getElem?_getD]
  cases kd[i]? <;> rfl
theorem pv_app {l : List Int32} {x : Int32} (hl : l.length ≤ 100000) : pv (l ++ [x]) = x ∧ pl (l ++ [x]) = l := by
  have e : Int32.ofNat (l ++ [x]).length - 1 = Int32.ofNat l.length := by
    rw [show (1 : Int32) = Int32.ofNat 1 from rfl, i_subof (by simp)]
    congr 1
    simp
  unfold pv pl
  rw [e, lg_of (by omega), lc_of (by omega)]
  refine ⟨?_, List.take_left' rfl⟩
  rw [List.getD_eq_getElem?_getD, List.getElem?_append_right (Nat.le_refl _), Nat.sub_self]; rfl
theorem pv_rev {l : List Int32} (hl : l.length ≤ 100000) : pv l.reverse = l.headD 0 ∧ pl l.reverse = l.tail.reverse := by
  cases l with
  | nil => exact ⟨by decide, by decide⟩
  | cons x l =>
    rw [List.length_cons] at hl
    have := pv_app (l := l.reverse) (x := x) (by rw [List.length_reverse]; omega)
    rw [List.reverse_cons]
    exact this
theorem gP_laN : ∀ (r gs : List Nat), laN 200 (gs.reverse.map Int32.ofNat) (r.reverse.map Int32.ofNat) = (gP gs r).reverse.map Int32.ofNat := by
  intro r gs
  unfold laN gP
  induction r with
  | nil => rfl
  | cons x r ih =>
    rw [List.reverse_cons, List.map_append, List.foldl_append, ih, List.foldr_cons]
    simp only [List.map_cons, List.map_nil, List.foldl_cons, List.foldl_nil]
    unfold la
    rw [List.length_map, List.length_reverse]
    split
    · rw [List.reverse_cons, List.map_append]; rfl
    · rfl
theorem gP_le {B : Nat} : ∀ (r gs : List Nat), (∀ g, g ∈ gs → g ≤ B) → (∀ g, g ∈ r → g ≤ B) → ∀ g, g ∈ gP gs r → g ≤ B := by
  intro r gs h1 h2
  unfold gP
  induction r with
  | nil => exact h1
  | cons x r ih =>
    rw [List.foldr_cons]
    have i1 := ih (fun g hg => h2 g (List.mem_cons_of_mem _ hg))
    split
    · intro g hg
      rcases List.mem_cons.mp hg with rfl | hg
      · exact h2 _ List.mem_cons_self
      · exact i1 g hg
    · exact i1
