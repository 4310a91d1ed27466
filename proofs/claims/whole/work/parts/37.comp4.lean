/-! WRITING A COMPOSED TOUR (class) -/
theorem mV_As {a : Nat} : ∀ (l : List Int32) (h : mH), mV (rAs h a l) = mV h
  | [], _ => rfl
  | x :: l, h => (mV_As l (rA h a x)).trans mV_A
theorem mK_As {a : Nat} : ∀ (l : List Int32) (h : mH), mK (rAs h a l) = mK h
  | [], _ => rfl
  | x :: l, h => (mK_As l (rA h a x)).trans mK_A
theorem mN_As {a : Nat} : ∀ (l : List Int32) (h : mH), mN (rAs h a l) = mN h
  | [], _ => rfl
  | x :: l, h => (mN_As l (rA h a x)).trans mN_A
theorem mIs_As {a b c : Nat} {l : List Int32} {h : mH} : mIs (rAs h a l) b c = mIs h b c := by unfold mIs; rw [mK_As, mN_As]
theorem tx_As {a : Nat} {l : List Int32} {h : mH} : tx (rAs h a l) = tx h := by unfold tx; rw [mV_As]
theorem kS_As {a : Nat} {l : List Int32} {h : mH} (hk : kS h) (ha : isRow a = true) : kS (rAs h a l) := (rAs_ok ha l h hk).1
theorem rL_Asn {a b : Nat} {l : List Int32} {h : mH} (ha : isRow a = true) (hb : isRow b = true) (hn : ¬ b = a) : rL (rAs h a l) b = rL h b := by
  induction l generalizing h with
  | nil => rfl
  | cons x l ih => exact (ih (h := rA h a x)).trans (rL_An ha hb hn)
theorem mI_As {a b k : Nat} {l : List Int32} {h : mH} (ha : isRow a = true) (hb : isFld b = true) : mI (rAs h a l) b k = mI h b k := by
  induction l generalizing h with
  | nil => rfl
  | cons x l ih => exact (ih (h := rA h a x)).trans (mI_A ha hb)
theorem As_As {a : Nat} {l l' : List Int32} {h : mH} : rAs (rAs h a l) a l' = rAs h a (l ++ l') := by
  unfold rAs; rw [List.foldl_append]
theorem rL_As {a : Nat} {l : List Int32} {h : mH} (hk : kS h) (ha : isRow a = true) : rL (rAs h a l) a = laN (rN h a) (rL h a) l := (rAs_ok ha l h hk).2.1
def sGo : List Int32 := [32, 103, 111, 32]
def sPl : List Int32 := [59, 32, 112, 108, 97, 121, 32]
def sEn : List Int32 := [59, 10]
def sHd : List Int32 := [116, 111, 117, 114, 32, 109, 97, 100, 101, 32, 123, 10]
def sFt : List Int32 := [125, 10]
theorem st_118 : sT 118 sGo := ⟨by decide, by decide +kernel, by decide, by decide +kernel, 119, by decide, by decide, by decide +kernel, by decide +kernel, by decide +kernel⟩
theorem st_120 : sT 120 sPl := ⟨by decide, by decide +kernel, by decide, by decide +kernel, 121, by decide, by decide, by decide +kernel, by decide +kernel, by decide +kernel⟩
theorem st_122 : sT 122 sEn := ⟨by decide, by decide +kernel, by decide, by decide +kernel, 123, by decide, by decide, by decide +kernel, by decide +kernel, by decide +kernel⟩
theorem st_124 : sT 124 sHd := ⟨by decide, by decide +kernel, by decide, by decide +kernel, 125, by decide, by decide, by decide +kernel, by decide +kernel, by decide +kernel⟩
theorem st_126 : sT 126 sFt := ⟨by decide, by decide +kernel, by decide, by decide +kernel, 127, by decide, by decide, by decide +kernel, by decide +kernel, by decide +kernel⟩
theorem kR_Fr {W : List Nat} {h H : mH} {t : Nat} {K : VK} {E : EV} {S : CS} (m : kR h t K E S) (hk : kS H) (f : Fr W h H) (hW : ∀ a, a ∈ W → a ∈ [285, 286]) : kR H t K E S := by
  obtain ⟨_, m2, m3, m4⟩ := m
  have n : ∀ a, a ∉ [285, 286] → a ∉ W := fun a h1 h2 => h1 (hW a h2)
  refine ⟨hk, eR_Fr m2 f (fun a ha => by have := hW a ha; simp only [List.mem_cons, List.not_mem_nil, or_false] at this; rcases this with rfl | rfl <;> decide), ?_, ?_⟩
  · rw [pQ_Fr f (n _ (by decide)) (n _ (by decide)) (n _ (by decide))]; exact m3
  · simp only [Fr_I f (n 283 (by decide)), Fr_I f (n 284 (by decide))]; exact m4
theorem kR_As {l : List Int32} {h : mH} {t : Nat} {K : VK} {E : EV} {S : CS} (m : kR h t K E S) : kR (rAs h 285 l) t K E S := kR_Fr m (kS_As m.1 kw_285) (rAs_ok kw_285 l h m.1).2.2.1 (fun _ h => h)
def cLine (N1 N2 : List Int32) (ps : List PT) (p : Int32) : List Int32 := sGo ++ nmF N1 (lg (ps.map (·.1)) p) 10 0 ++ sPl ++ nmF N2 p 10 0 ++ sEn
theorem k_line {d t : Nat} {K : VK} {E : EV} {S : CS} {p : Int32} {h : mH} {N1 N2 : List Int32} (m : kR h t K E S) (h1 : rL h (t + 1) = N1) (h2 : rL h (t + 9) = N2) :
    mCall (d + 6) 238 [.ref 283, .int p] h = some (.inl none, rAs h 285 (cLine N1 N2 E.2.2.1 p)) := by
  have etx := (kR_t m).1
  have hk := m.1
  have hx := m.2.1.1.2.2.2.2.2.1
  have ht := m.2.1.1.1
  unfold cLine
  rw [← As_As, ← As_As, ← As_As, ← As_As]
  rcases ht with rfl | rfl <;> (
    simp only [Nat.reduceAdd] at h1 h2 hx
    simp (maxDischargeDepth := 60) only [hk, x_238_0, x_238_1, x_238_4, x_238_7, x_238_8, x_238_9, x_238_11, x_238_14, x_238_15, x_238_16, x_238_19, x_238_20, x_238_23, x_238_24, x_238_27, x_238_30, x_238_31, x_238_33, x_238_36, x_238_37, x_238_38, x_238_41, x_238_42, x_238_45, x_238_46, x_238_48, x_238_51, c_238, x_128_0, x_128_1, x_128_4, c_128, mV_As, mIs_As, tx_As, kS_As, rL_Asn, mI_As, etx, h1, h2, hx, k_signs st_118, k_signs st_120, k_signs st_122, k_name, Option.bind_some, mAft_n, mAft_v, mAft_x, mS_n, mS_i, mS_r, mS_l, mS_d, ne_eq, not_false_eq_true, not_true_eq_false, true_or, or_true, and_true, true_and, if_true, if_false, ite_true, ite_false, reduceIte, Nat.reduceAdd, Nat.reduceLeDiff, Nat.reduceEqDiff, false_and, and_false, or_false, false_or, eq_self, reduceCtorEq, kw_201, kw_204, kw_206, kw_208, kw_210, kw_212, kw_214, kw_217, kw_219, kw_222, kw_225, kw_227, kw_229, kw_231, kw_234, kw_236, kw_238, kw_240, kw_242, kw_244, kw_246, kw_248, kw_250, kw_252, kw_254, kw_256, kw_258, kw_260, kw_262, kw_264, kw_266, kw_270, kw_274, kw_277, kw_279, kw_281, kw_285, kw_288, kw_290, kw_292, kw_294, kw_296, kw_298, kw_300, kw_302, kw_304, kw_306, kw_308, kw_310, kw_312, kw_314, kn_201, kn_204, kn_206, kn_208, kn_210, kn_212, kn_214, kn_217, kn_219, kn_222, kn_225, kn_227, kn_229, kn_231, kn_234, kn_236, kn_238, kn_240, kn_242, kn_244, kn_246, kn_248, kn_250, kn_252, kn_254, kn_256, kn_258, kn_260, kn_262, kn_264, kn_266, kn_270, kn_274, kn_277, kn_279, kn_281, kn_285, kn_288, kn_290, kn_292, kn_294, kn_296, kn_298, kn_300, kn_302, kn_304, kn_306, kn_308, kn_310, kn_312, kn_314, kf_200, kf_203, kf_216, kf_221, kf_224, kf_233, kf_268, kf_269, kf_272, kf_273, kf_276, kf_283, kf_284, kf_287, ki_200, ki_203, ki_216, ki_221, ki_224, ki_233, ki_268, ki_269, ki_272, ki_273, ki_276, ki_283, ki_284, ki_287, kv_200_0, kv_200_1, kv_200_2, kv_200_3, kv_200_4, kv_200_5, kv_200_6, kv_200_7, kv_200_8, kv_200_9, kv_200_10, kv_200_11, kv_203_0, kv_203_1, kv_203_2, kv_203_3, kv_203_4, kv_203_5, kv_216_0, kv_216_1, kv_216_2, kv_221_0, kv_221_1, kv_221_3, kv_224_0, kv_224_1, kv_224_2, kv_224_3, kv_233_0, kv_233_1, kv_233_2, kv_233_3, kv_233_4, kv_233_5, kv_233_6, kv_233_7, kv_233_8, kv_233_9, kv_233_10, kv_233_11, kv_233_12, kv_233_13, kv_268_0, kv_268_1, kv_268_2, kv_272_0, kv_272_1, kv_272_2, kv_276_0, kv_276_1, kv_276_2, kv_276_3, kv_283_0, kv_283_1, kv_283_2, kv_287_0, kv_287_1, kv_287_2, kv_287_3, kv_287_4, kv_287_5, kv_287_6, kv_287_7, kv_287_8, kv_287_9, kv_287_10, kv_287_11, kv_287_12, kv_287_13, kS_A, kS_S, kS_C, kS_SI, mI_A, mI_S, mI_C, nI_SI, mV_A, mV_S, mV_C, nV_SI, mK_A, mK_S, mK_C, nK_SI, mN_A, mN_S, mN_C, nN_SI, mL_A, mL_S, mL_C, nL_SI, tx_A, tx_S, tx_C, tx_SI, tx_v, tx_w, mIs_A, mIs_S, mIs_C, nIs_SI, kS_row, kS_r4, r_size, r_get, r_set, r_add, r_cut, rL_A, rL_S, rL_C, rL_An, rL_Sn, rL_Cn, rL_SI, rN_A, rN_S, rN_C, rN_SI])
/-- so many parts taken: which, and where one stands then -/
def cTk (K : VK) (E : EV) : Nat → CS → List Int32 × CS
  | 0, S => ([], S)
  | n + 1, S => if cChoose K E S < 0 then ([], S) else (cChoose K E S :: (cTk K E n (cTake K E (cChoose K E S) S).2).1, (cTk K E n (cTake K E (cChoose K E S) S).2).2)
def cLines (N1 N2 : List Int32) (ps : List PT) : List Int32 → List Int32
  | [] => []
  | p :: l => cLine N1 N2 ps p ++ cLines N1 N2 ps l
theorem k_write_l {d t : Nat} {K : VK} {E : EV} {N1 N2 : List Int32} {e : Int32} (hp : ¬ K.1 ≤ 0) (hP : pOK E) : ∀ (n i : Nat) (S : CS) (h : mH), i + n = E.2.2.1.length → kR h t K E S → rL h (t + 1) = N1 → rL h (t + 9) = N2 →
    ∃ H, mExec (mCall (d + 6)) 239 38 [some (.ref 283), some (.int e), some (.int (Int32.ofNat E.2.2.1.length)), some (.int (cChoose K E S)), some (.int (Int32.ofNat i))] [] h = some (.inl (some (.int (cTk K E n S).2.2.2.2.2)), H) ∧ kR H t K E (cTk K E n S).2 ∧ rL H 285 = laN 542 (rL h 285) (cLines N1 N2 E.2.2.1 (cTk K E n S).1 ++ sFt) ∧ Fr [224, 231, 232, 284, 285, 286] h H := by
  have fin : ∀ (i : Nat) (S : CS) (h : mH), kR h t K E S → rL h (t + 1) = N1 → rL h (t + 9) = N2 → ((Int32.ofNat E.2.2.1.length ≤ Int32.ofNat i) ∨ (¬ Int32.ofNat E.2.2.1.length ≤ Int32.ofNat i ∧ cChoose K E S < 0)) → mExec (mCall (d + 6)) 239 38 [some (.ref 283), some (.int e), some (.int (Int32.ofNat E.2.2.1.length)), some (.int (cChoose K E S)), some (.int (Int32.ofNat i))] [] h = some (.inl (some (.int S.2.2.2.2)), rAs h 285 sFt) := by
    intro i S h m h1 h2 c
    have hk := m.1
    have g8 : mI h 284 7 = S.2.2.2.2 := m.2.2.2.2.2.2.2.2.2.2.2.1
    rw [x_239_38]
    rcases c with c | ⟨c, c'⟩
    · simp (maxDischargeDepth := 60) only [hk, x_239_0, x_239_1, x_239_2, x_239_5, x_239_6, x_239_9, x_239_10, x_239_13, x_239_14, x_239_16, x_239_19, x_239_20, x_239_23, x_239_26, x_239_29, x_239_30, x_239_31, x_239_34, x_239_35, x_239_36, x_239_40, x_239_41, x_239_44, x_239_45, x_239_48, x_239_49, x_239_50, x_239_53, x_239_54, x_239_55, x_239_56, x_239_59, x_239_60, x_239_63, x_239_64, x_239_67, x_239_70, x_239_71, x_239_73, x_239_76, x_239_77, x_239_80, x_239_83, mV_As, mIs_As, kS_As, mI_As, c, g8, k_signs st_126, Option.bind_some, mAft_n, mAft_v, mAft_x, mS_n, mS_i, mS_r, mS_l, mS_d, ne_eq, not_false_eq_true, not_true_eq_false, true_or, or_true, and_true, true_and, if_true, if_false, ite_true, ite_false, reduceIte, Nat.reduceAdd, Nat.reduceLeDiff, Nat.reduceEqDiff, false_and, and_false, or_false, false_or, eq_self, reduceCtorEq, kw_201, kw_204, kw_206, kw_208, kw_210, kw_212, kw_214, kw_217, kw_219, kw_222, kw_225, kw_227, kw_229, kw_231, kw_234, kw_236, kw_238, kw_240, kw_242, kw_244, kw_246, kw_248, kw_250, kw_252, kw_254, kw_256, kw_258, kw_260, kw_262, kw_264, kw_266, kw_270, kw_274, kw_277, kw_279, kw_281, kw_285, kw_288, kw_290, kw_292, kw_294, kw_296, kw_298, kw_300, kw_302, kw_304, kw_306, kw_308, kw_310, kw_312, kw_314, kn_201, kn_204, kn_206, kn_208, kn_210, kn_212, kn_214, kn_217, kn_219, kn_222, kn_225, kn_227, kn_229, kn_231, kn_234, kn_236, kn_238, kn_240, kn_242, kn_244, kn_246, kn_248, kn_250, kn_252, kn_254, kn_256, kn_258, kn_260, kn_262, kn_264, kn_266, kn_270, kn_274, kn_277, kn_279, kn_281, kn_285, kn_288, kn_290, kn_292, kn_294, kn_296, kn_298, kn_300, kn_302, kn_304, kn_306, kn_308, kn_310, kn_312, kn_314, kf_200, kf_203, kf_216, kf_221, kf_224, kf_233, kf_268, kf_269, kf_272, kf_273, kf_276, kf_283, kf_284, kf_287, ki_200, ki_203, ki_216, ki_221, ki_224, ki_233, ki_268, ki_269, ki_272, ki_273, ki_276, ki_283, ki_284, ki_287, kv_200_0, kv_200_1, kv_200_2, kv_200_3, kv_200_4, kv_200_5, kv_200_6, kv_200_7, kv_200_8, kv_200_9, kv_200_10, kv_200_11, kv_203_0, kv_203_1, kv_203_2, kv_203_3, kv_203_4, kv_203_5, kv_216_0, kv_216_1, kv_216_2, kv_221_0, kv_221_1, kv_221_3, kv_224_0, kv_224_1, kv_224_2, kv_224_3, kv_233_0, kv_233_1, kv_233_2, kv_233_3, kv_233_4, kv_233_5, kv_233_6, kv_233_7, kv_233_8, kv_233_9, kv_233_10, kv_233_11, kv_233_12, kv_233_13, kv_268_0, kv_268_1, kv_268_2, kv_272_0, kv_272_1, kv_272_2, kv_276_0, kv_276_1, kv_276_2, kv_276_3, kv_283_0, kv_283_1, kv_283_2, kv_287_0, kv_287_1, kv_287_2, kv_287_3, kv_287_4, kv_287_5, kv_287_6, kv_287_7, kv_287_8, kv_287_9, kv_287_10, kv_287_11, kv_287_12, kv_287_13, kS_A, kS_S, kS_C, kS_SI, mI_A, mI_S, mI_C, nI_SI, mV_A, mV_S, mV_C, nV_SI, mK_A, mK_S, mK_C, nK_SI, mN_A, mN_S, mN_C, nN_SI, mL_A, mL_S, mL_C, nL_SI, tx_A, tx_S, tx_C, tx_SI, tx_v, tx_w, mIs_A, mIs_S, mIs_C, nIs_SI, kS_row, kS_r4, r_size, r_get, r_set, r_add, r_cut, rL_A, rL_S, rL_C, rL_An, rL_Sn, rL_Cn, rL_SI, rN_A, rN_S, rN_C, rN_SI]
    · simp (maxDischargeDepth := 60) only [hk, x_239_0, x_239_1, x_239_2, x_239_5, x_239_6, x_239_9, x_239_10, x_239_13, x_239_14, x_239_16, x_239_19, x_239_20, x_239_23, x_239_26, x_239_29, x_239_30, x_239_31, x_239_34, x_239_35, x_239_36, x_239_40, x_239_41, x_239_44, x_239_45, x_239_48, x_239_49, x_239_50, x_239_53, x_239_54, x_239_55, x_239_56, x_239_59, x_239_60, x_239_63, x_239_64, x_239_67, x_239_70, x_239_71, x_239_73, x_239_76, x_239_77, x_239_80, x_239_83, mV_As, mIs_As, kS_As, mI_As, c, c', g8, k_signs st_126, Option.bind_some, mAft_n, mAft_v, mAft_x, mS_n, mS_i, mS_r, mS_l, mS_d, ne_eq, not_false_eq_true, not_true_eq_false, true_or, or_true, and_true, true_and, if_true, if_false, ite_true, ite_false, reduceIte, Nat.reduceAdd, Nat.reduceLeDiff, Nat.reduceEqDiff, false_and, and_false, or_false, false_or, eq_self, reduceCtorEq, kw_201, kw_204, kw_206, kw_208, kw_210, kw_212, kw_214, kw_217, kw_219, kw_222, kw_225, kw_227, kw_229, kw_231, kw_234, kw_236, kw_238, kw_240, kw_242, kw_244, kw_246, kw_248, kw_250, kw_252, kw_254, kw_256, kw_258, kw_260, kw_262, kw_264, kw_266, kw_270, kw_274, kw_277, kw_279, kw_281, kw_285, kw_288, kw_290, kw_292, kw_294, kw_296, kw_298, kw_300, kw_302, kw_304, kw_306, kw_308, kw_310, kw_312, kw_314, kn_201, kn_204, kn_206, kn_208, kn_210, kn_212, kn_214, kn_217, kn_219, kn_222, kn_225, kn_227, kn_229, kn_231, kn_234, kn_236, kn_238, kn_240, kn_242, kn_244, kn_246, kn_248, kn_250, kn_252, kn_254, kn_256, kn_258, kn_260, kn_262, kn_264, kn_266, kn_270, kn_274, kn_277, kn_279, kn_281, kn_285, kn_288, kn_290, kn_292, kn_294, kn_296, kn_298, kn_300, kn_302, kn_304, kn_306, kn_308, kn_310, kn_312, kn_314, kf_200, kf_203, kf_216, kf_221, kf_224, kf_233, kf_268, kf_269, kf_272, kf_273, kf_276, kf_283, kf_284, kf_287, ki_200, ki_203, ki_216, ki_221, ki_224, ki_233, ki_268, ki_269, ki_272, ki_273, ki_276, ki_283, ki_284, ki_287, kv_200_0, kv_200_1, kv_200_2, kv_200_3, kv_200_4, kv_200_5, kv_200_6, kv_200_7, kv_200_8, kv_200_9, kv_200_10, kv_200_11, kv_203_0, kv_203_1, kv_203_2, kv_203_3, kv_203_4, kv_203_5, kv_216_0, kv_216_1, kv_216_2, kv_221_0, kv_221_1, kv_221_3, kv_224_0, kv_224_1, kv_224_2, kv_224_3, kv_233_0, kv_233_1, kv_233_2, kv_233_3, kv_233_4, kv_233_5, kv_233_6, kv_233_7, kv_233_8, kv_233_9, kv_233_10, kv_233_11, kv_233_12, kv_233_13, kv_268_0, kv_268_1, kv_268_2, kv_272_0, kv_272_1, kv_272_2, kv_276_0, kv_276_1, kv_276_2, kv_276_3, kv_283_0, kv_283_1, kv_283_2, kv_287_0, kv_287_1, kv_287_2, kv_287_3, kv_287_4, kv_287_5, kv_287_6, kv_287_7, kv_287_8, kv_287_9, kv_287_10, kv_287_11, kv_287_12, kv_287_13, kS_A, kS_S, kS_C, kS_SI, mI_A, mI_S, mI_C, nI_SI, mV_A, mV_S, mV_C, nV_SI, mK_A, mK_S, mK_C, nK_SI, mN_A, mN_S, mN_C, nN_SI, mL_A, mL_S, mL_C, nL_SI, tx_A, tx_S, tx_C, tx_SI, tx_v, tx_w, mIs_A, mIs_S, mIs_C, nIs_SI, kS_row, kS_r4, r_size, r_get, r_set, r_add, r_cut, rL_A, rL_S, rL_C, rL_An, rL_Sn, rL_Cn, rL_SI, rN_A, rN_S, rN_C, rN_SI]
  intro n
  induction n with
  | zero =>
    intro i S h e1 m h1 h2
    have hl := (kR_t m).2.2.2.2.2.2.2.2
    refine ⟨_, fin i S h m h1 h2 (Or.inl (by rw [i_ofle (by omega) (by omega)]; omega)), kR_As m, ?_, Fr_mono (rAs_ok kw_285 _ h m.1).2.2.1 (by decide)⟩
    rw [rL_As m.1 kw_285, kn_285 m.1]; rfl
  | succ n ih =>
    intro i S h e1 m h1 h2
    have hl := (kR_t m).2.2.2.2.2.2.2.2
    have c1 : ¬ Int32.ofNat E.2.2.1.length ≤ Int32.ofNat i := by rw [i_ofle (by omega) (by omega)]; omega
    rw [cTk]
    by_cases c2 : cChoose K E S < 0
    · rw [if_pos c2]
      refine ⟨_, fin i S h m h1 h2 (Or.inr ⟨c1, c2⟩), kR_As m, ?_, Fr_mono (rAs_ok kw_285 _ h m.1).2.2.1 (by decide)⟩
      rw [rL_As m.1 kw_285, kn_285 m.1]; rfl
    · rw [if_neg c2]
      have hk := m.1
      have ht := m.2.1.1.1
      obtain ⟨H1, a1, a2, a3⟩ := k_take (d := d + 2) (p := cChoose K E S) hp hP m
      have hN : rL H1 (t + 1) = N1 ∧ rL H1 (t + 9) = N2 := by
        rcases ht with rfl | rfl
        · exact ⟨(Fr_L a3 (by decide) (by decide)).trans h1, (Fr_L a3 (by decide) (by decide)).trans h2⟩
        · exact ⟨(Fr_L a3 (by decide) (by decide)).trans h1, (Fr_L a3 (by decide) (by decide)).trans h2⟩
      have e2 := k_line (d := d) (p := cChoose K E S) a2 hN.1 hN.2
      have m2 := kR_As (l := cLine N1 N2 E.2.2.1 (cChoose K E S)) a2
      have hN2 : rL (rAs H1 285 (cLine N1 N2 E.2.2.1 (cChoose K E S))) (t + 1) = N1 ∧ rL (rAs H1 285 (cLine N1 N2 E.2.2.1 (cChoose K E S))) (t + 9) = N2 := by
        rcases ht with rfl | rfl
        · exact ⟨(rL_Asn kw_285 kw_234 (by decide)).trans hN.1, (rL_Asn kw_285 kw_242 (by decide)).trans hN.2⟩
        · exact ⟨(rL_Asn kw_285 kw_288 (by decide)).trans hN.1, (rL_Asn kw_285 kw_296 (by decide)).trans hN.2⟩
      have eL : rL (rAs H1 285 (cLine N1 N2 E.2.2.1 (cChoose K E S))) 285 = laN 542 (rL h 285) (cLine N1 N2 E.2.2.1 (cChoose K E S)) := by
        rw [rL_As a2.1 kw_285, kn_285 a2.1, Fr_L a3 (by decide) (by decide)]
      have f2 : Fr [224, 231, 232, 284, 285, 286] h (rAs H1 285 (cLine N1 N2 E.2.2.1 (cChoose K E S))) := Fr_trans (Fr_mono a3 (by decide)) (Fr_mono (rAs_ok kw_285 _ H1 a2.1).2.2.1 (by decide))
      have hk1 := a2.1
      have hV : mV H1 = mV h := Fr_V a3
      generalize rAs H1 285 (cLine N1 N2 E.2.2.1 (cChoose K E S)) = H2 at e2 m2 hN2 eL f2
      obtain ⟨H3, b1, b2, b3⟩ := k_choose (d := d + 1) hp hP m2
      have hN3 : rL H3 (t + 1) = N1 ∧ rL H3 (t + 9) = N2 := by
        rcases ht with rfl | rfl
        · exact ⟨(Fr_L b3 (by decide) (by decide)).trans hN2.1, (Fr_L b3 (by decide) (by decide)).trans hN2.2⟩
        · exact ⟨(Fr_L b3 (by decide) (by decide)).trans hN2.1, (Fr_L b3 (by decide) (by decide)).trans hN2.2⟩
      obtain ⟨H, g1, g2, g3, g4⟩ := ih (i + 1) (cTake K E (cChoose K E S) S).2 H3 (by omega) b2 hN3.1 hN3.2
      refine ⟨H, ?_, g2, ?_, Fr_trans f2 (Fr_trans (Fr_mono b3 (by decide)) g4)⟩
      · rw [← g1, x_239_38]
        have hk2 := m2.1
        simp (maxDischargeDepth := 60) only [hk, x_239_0, x_239_1, x_239_2, x_239_5, x_239_6, x_239_9, x_239_10, x_239_13, x_239_14, x_239_16, x_239_19, x_239_20, x_239_23, x_239_26, x_239_29, x_239_30, x_239_31, x_239_34, x_239_35, x_239_36, x_239_40, x_239_41, x_239_44, x_239_45, x_239_48, x_239_49, x_239_50, x_239_53, x_239_54, x_239_55, x_239_56, x_239_59, x_239_60, x_239_63, x_239_64, x_239_67, x_239_70, x_239_71, x_239_73, x_239_76, x_239_77, x_239_80, x_239_83, c1, c2, a1, e2, b1, hk1, hk2, i_succ, Option.bind_some, mAft_n, mAft_v, mAft_x, mS_n, mS_i, mS_r, mS_l, mS_d, ne_eq, not_false_eq_true, not_true_eq_false, true_or, or_true, and_true, true_and, if_true, if_false, ite_true, ite_false, reduceIte, Nat.reduceAdd, Nat.reduceLeDiff, Nat.reduceEqDiff, false_and, and_false, or_false, false_or, eq_self, reduceCtorEq, kw_201, kw_204, kw_206, kw_208, kw_210, kw_212, kw_214, kw_217, kw_219, kw_222, kw_225, kw_227, kw_229, kw_231, kw_234, kw_236, kw_238, kw_240, kw_242, kw_244, kw_246, kw_248, kw_250, kw_252, kw_254, kw_256, kw_258, kw_260, kw_262, kw_264, kw_266, kw_270, kw_274, kw_277, kw_279, kw_281, kw_285, kw_288, kw_290, kw_292, kw_294, kw_296, kw_298, kw_300, kw_302, kw_304, kw_306, kw_308, kw_310, kw_312, kw_314, kn_201, kn_204, kn_206, kn_208, kn_210, kn_212, kn_214, kn_217, kn_219, kn_222, kn_225, kn_227, kn_229, kn_231, kn_234, kn_236, kn_238, kn_240, kn_242, kn_244, kn_246, kn_248, kn_250, kn_252, kn_254, kn_256, kn_258, kn_260, kn_262, kn_264, kn_266, kn_270, kn_274, kn_277, kn_279, kn_281, kn_285, kn_288, kn_290, kn_292, kn_294, kn_296, kn_298, kn_300, kn_302, kn_304, kn_306, kn_308, kn_310, kn_312, kn_314, kf_200, kf_203, kf_216, kf_221, kf_224, kf_233, kf_268, kf_269, kf_272, kf_273, kf_276, kf_283, kf_284, kf_287, ki_200, ki_203, ki_216, ki_221, ki_224, ki_233, ki_268, ki_269, ki_272, ki_273, ki_276, ki_283, ki_284, ki_287, kv_200_0, kv_200_1, kv_200_2, kv_200_3, kv_200_4, kv_200_5, kv_200_6, kv_200_7, kv_200_8, kv_200_9, kv_200_10, kv_200_11, kv_203_0, kv_203_1, kv_203_2, kv_203_3, kv_203_4, kv_203_5, kv_216_0, kv_216_1, kv_216_2, kv_221_0, kv_221_1, kv_221_3, kv_224_0, kv_224_1, kv_224_2, kv_224_3, kv_233_0, kv_233_1, kv_233_2, kv_233_3, kv_233_4, kv_233_5, kv_233_6, kv_233_7, kv_233_8, kv_233_9, kv_233_10, kv_233_11, kv_233_12, kv_233_13, kv_268_0, kv_268_1, kv_268_2, kv_272_0, kv_272_1, kv_272_2, kv_276_0, kv_276_1, kv_276_2, kv_276_3, kv_283_0, kv_283_1, kv_283_2, kv_287_0, kv_287_1, kv_287_2, kv_287_3, kv_287_4, kv_287_5, kv_287_6, kv_287_7, kv_287_8, kv_287_9, kv_287_10, kv_287_11, kv_287_12, kv_287_13, kS_A, kS_S, kS_C, kS_SI, mI_A, mI_S, mI_C, nI_SI, mV_A, mV_S, mV_C, nV_SI, mK_A, mK_S, mK_C, nK_SI, mN_A, mN_S, mN_C, nN_SI, mL_A, mL_S, mL_C, nL_SI, tx_A, tx_S, tx_C, tx_SI, tx_v, tx_w, mIs_A, mIs_S, mIs_C, nIs_SI, kS_row, kS_r4, r_size, r_get, r_set, r_add, r_cut, rL_A, rL_S, rL_C, rL_An, rL_Sn, rL_Cn, rL_SI, rN_A, rN_S, rN_C, rN_SI]
      · rw [g3, Fr_L b3 (by decide) (by decide), eL, cLines, List.append_assoc]
        unfold laN
        rw [← List.foldl_append]
theorem k_write {d t : Nat} {K : VK} {E : EV} {S : CS} {N1 N2 : List Int32} {e : Int32} {h : mH} (hp : ¬ K.1 ≤ 0) (hP : pOK E) (m : kR (mSI h 283 3 e) t K E S) (h1 : rL h (t + 1) = N1) (h2 : rL h (t + 9) = N2) (hk0 : kS h) :
    ∃ H, mCall (d + 7) 239 [.ref 283, .int e] h = some (.inl (some (.int (cTk K E E.2.2.1.length S).2.2.2.2.2)), H) ∧ kR H t K E (cTk K E E.2.2.1.length S).2 ∧ rL H 285 = laN 542 [] (sHd ++ cLines N1 N2 E.2.2.1 (cTk K E E.2.2.1.length S).1 ++ sFt) ∧ Fr [224, 231, 232, 283, 284, 285, 286] h H := by
  have ht := m.2.1.1.1
  have hk := m.1
  have fC : Fr [285, 286] (mSI h 283 3 e) (rC (mSI h 283 3 e) 285 0) := Fr_C Fr_refl (by decide) (by decide)
  have m1 := kR_Fr m (kS_C hk kw_285) fC (fun _ h => h)
  have m2 := kR_As (l := sHd) m1
  have e5 := t_parts (d := d + 4) m2
  have e6 := p_text (d := d + 5) m2
  have e7 := (kR_t m2).2.1
  have f2 : Fr [283, 285, 286] h (rAs (rC (mSI h 283 3 e) 285 0) 285 sHd) := Fr_trans (Fr_SI Fr_refl (by decide)) (Fr_trans (Fr_mono fC (by decide)) (Fr_mono (rAs_ok kw_285 _ _ m1.1).2.2.1 (by decide)))
  have eL : rL (rAs (rC (mSI h 283 3 e) 285 0) 285 sHd) 285 = laN 542 [] sHd := by
    rw [rL_As m1.1 kw_285, kn_285 m1.1, rL_C hk kw_285, lc_0]
  have hk2 := m2.1
  have hV : mV (rAs (rC (mSI h 283 3 e) 285 0) 285 sHd) = mV h := mV_As ..
  have hI : ∀ a c, mIs (rAs (rC (mSI h 283 3 e) 285 0) 285 sHd) a c = mIs h a c := fun a c => Fr_is f2
  have e1 := k_signs (d := d + 1) (h := rC (mSI h 283 3 e) 285 0) st_124 m1.1
  generalize rAs (rC (mSI h 283 3 e) 285 0) 285 sHd = H2 at *
  obtain ⟨H3, b1, b2, b3⟩ := k_choose (d := d + 1) hp hP m2
  have hN3 : rL H3 (t + 1) = N1 ∧ rL H3 (t + 9) = N2 := by
    rcases ht with rfl | rfl
    · exact ⟨(Fr_L b3 (by decide) (by decide)).trans ((Fr_L f2 (by decide) (by decide)).trans h1), (Fr_L b3 (by decide) (by decide)).trans ((Fr_L f2 (by decide) (by decide)).trans h2)⟩
    · exact ⟨(Fr_L b3 (by decide) (by decide)).trans ((Fr_L f2 (by decide) (by decide)).trans h1), (Fr_L b3 (by decide) (by decide)).trans ((Fr_L f2 (by decide) (by decide)).trans h2)⟩
  obtain ⟨H, g1, g2, g3, g4⟩ := k_write_l (d := d) (e := e) hp hP E.2.2.1.length 0 S H3 (by omega) b2 hN3.1 hN3.2
  refine ⟨H, ?_, g2, ?_, Fr_trans (Fr_mono f2 (by decide)) (Fr_trans (Fr_mono b3 (by decide)) (Fr_mono g4 (by decide)))⟩
  · rw [← g1]
    have z : (0 : Int32) = Int32.ofNat 0 := rfl
    rw [← z]
    simp (maxDischargeDepth := 60) only [hk, x_239_0, x_239_1, x_239_2, x_239_5, x_239_6, x_239_9, x_239_10, x_239_13, x_239_14, x_239_16, x_239_19, x_239_20, x_239_23, x_239_26, x_239_29, x_239_30, x_239_31, x_239_34, x_239_35, x_239_36, x_239_40, x_239_41, x_239_44, x_239_45, x_239_48, x_239_49, x_239_50, x_239_53, x_239_54, x_239_55, x_239_56, x_239_59, x_239_60, x_239_63, x_239_64, x_239_67, x_239_70, x_239_71, x_239_73, x_239_76, x_239_77, x_239_80, x_239_83, c_239, hk0, e1, e5, e6, e7, b1, hk2, hV, hI, Option.bind_some, mAft_n, mAft_v, mAft_x, mS_n, mS_i, mS_r, mS_l, mS_d, ne_eq, not_false_eq_true, not_true_eq_false, true_or, or_true, and_true, true_and, if_true, if_false, ite_true, ite_false, reduceIte, Nat.reduceAdd, Nat.reduceLeDiff, Nat.reduceEqDiff, false_and, and_false, or_false, false_or, eq_self, reduceCtorEq, kw_201, kw_204, kw_206, kw_208, kw_210, kw_212, kw_214, kw_217, kw_219, kw_222, kw_225, kw_227, kw_229, kw_231, kw_234, kw_236, kw_238, kw_240, kw_242, kw_244, kw_246, kw_248, kw_250, kw_252, kw_254, kw_256, kw_258, kw_260, kw_262, kw_264, kw_266, kw_270, kw_274, kw_277, kw_279, kw_281, kw_285, kw_288, kw_290, kw_292, kw_294, kw_296, kw_298, kw_300, kw_302, kw_304, kw_306, kw_308, kw_310, kw_312, kw_314, kn_201, kn_204, kn_206, kn_208, kn_210, kn_212, kn_214, kn_217, kn_219, kn_222, kn_225, kn_227, kn_229, kn_231, kn_234, kn_236, kn_238, kn_240, kn_242, kn_244, kn_246, kn_248, kn_250, kn_252, kn_254, kn_256, kn_258, kn_260, kn_262, kn_264, kn_266, kn_270, kn_274, kn_277, kn_279, kn_281, kn_285, kn_288, kn_290, kn_292, kn_294, kn_296, kn_298, kn_300, kn_302, kn_304, kn_306, kn_308, kn_310, kn_312, kn_314, kf_200, kf_203, kf_216, kf_221, kf_224, kf_233, kf_268, kf_269, kf_272, kf_273, kf_276, kf_283, kf_284, kf_287, ki_200, ki_203, ki_216, ki_221, ki_224, ki_233, ki_268, ki_269, ki_272, ki_273, ki_276, ki_283, ki_284, ki_287, kv_200_0, kv_200_1, kv_200_2, kv_200_3, kv_200_4, kv_200_5, kv_200_6, kv_200_7, kv_200_8, kv_200_9, kv_200_10, kv_200_11, kv_203_0, kv_203_1, kv_203_2, kv_203_3, kv_203_4, kv_203_5, kv_216_0, kv_216_1, kv_216_2, kv_221_0, kv_221_1, kv_221_3, kv_224_0, kv_224_1, kv_224_2, kv_224_3, kv_233_0, kv_233_1, kv_233_2, kv_233_3, kv_233_4, kv_233_5, kv_233_6, kv_233_7, kv_233_8, kv_233_9, kv_233_10, kv_233_11, kv_233_12, kv_233_13, kv_268_0, kv_268_1, kv_268_2, kv_272_0, kv_272_1, kv_272_2, kv_276_0, kv_276_1, kv_276_2, kv_276_3, kv_283_0, kv_283_1, kv_283_2, kv_287_0, kv_287_1, kv_287_2, kv_287_3, kv_287_4, kv_287_5, kv_287_6, kv_287_7, kv_287_8, kv_287_9, kv_287_10, kv_287_11, kv_287_12, kv_287_13, kS_A, kS_S, kS_C, kS_SI, mI_A, mI_S, mI_C, nI_SI, mV_A, mV_S, mV_C, nV_SI, mK_A, mK_S, mK_C, nK_SI, mN_A, mN_S, mN_C, nN_SI, mL_A, mL_S, mL_C, nL_SI, tx_A, tx_S, tx_C, tx_SI, tx_v, tx_w, mIs_A, mIs_S, mIs_C, nIs_SI, kS_row, kS_r4, r_size, r_get, r_set, r_add, r_cut, rL_A, rL_S, rL_C, rL_An, rL_Sn, rL_Cn, rL_SI, rN_A, rN_S, rN_C, rN_SI]
  · rw [g3, Fr_L b3 (by decide) (by decide), eL]
    unfold laN
    rw [← List.foldl_append, List.append_assoc]
theorem k_greatest {d t : Nat} {K : VK} {E : EV} {S : CS} {e : Int32} {h : mH} (hp : ¬ K.1 ≤ 0) (hP : pOK E) (m : kR (mSI h 283 3 e) t K E S) (hk0 : kS h) :
    ∃ H, mCall (d + 12) 252 [.ref 283, .int e] h = some (.inl (some (.int (cSrch K E 6 S))), H) ∧ kR H t K E S ∧ Fr [224, 231, 232, 283, 284] h H := by
  obtain ⟨H, b1, b2, b3⟩ := k_search hp hP 6 d S _ (by omega) m
  refine ⟨H, ?_, b2, Fr_trans (Fr_SI Fr_refl (by decide)) (Fr_mono b3 (by decide))⟩
  have b1' : mCall (d + 11) 251 [.ref 283, .int 0] (mSI h 283 3 e) = some (.inl (some (.int (cSrch K E 6 S))), H) := b1
  have hk := m.1
  simp (maxDischargeDepth := 60) only [hk, x_252_0, x_252_1, x_252_2, x_252_5, x_252_6, x_252_7, x_252_10, c_252, hk0, b1', Option.bind_some, mAft_n, mAft_v, mAft_x, mS_n, mS_i, mS_r, mS_l, mS_d, ne_eq, not_false_eq_true, not_true_eq_false, true_or, or_true, and_true, true_and, if_true, if_false, ite_true, ite_false, reduceIte, Nat.reduceAdd, Nat.reduceLeDiff, Nat.reduceEqDiff, false_and, and_false, or_false, false_or, eq_self, reduceCtorEq, kw_201, kw_204, kw_206, kw_208, kw_210, kw_212, kw_214, kw_217, kw_219, kw_222, kw_225, kw_227, kw_229, kw_231, kw_234, kw_236, kw_238, kw_240, kw_242, kw_244, kw_246, kw_248, kw_250, kw_252, kw_254, kw_256, kw_258, kw_260, kw_262, kw_264, kw_266, kw_270, kw_274, kw_277, kw_279, kw_281, kw_285, kw_288, kw_290, kw_292, kw_294, kw_296, kw_298, kw_300, kw_302, kw_304, kw_306, kw_308, kw_310, kw_312, kw_314, kn_201, kn_204, kn_206, kn_208, kn_210, kn_212, kn_214, kn_217, kn_219, kn_222, kn_225, kn_227, kn_229, kn_231, kn_234, kn_236, kn_238, kn_240, kn_242, kn_244, kn_246, kn_248, kn_250, kn_252, kn_254, kn_256, kn_258, kn_260, kn_262, kn_264, kn_266, kn_270, kn_274, kn_277, kn_279, kn_281, kn_285, kn_288, kn_290, kn_292, kn_294, kn_296, kn_298, kn_300, kn_302, kn_304, kn_306, kn_308, kn_310, kn_312, kn_314, kf_200, kf_203, kf_216, kf_221, kf_224, kf_233, kf_268, kf_269, kf_272, kf_273, kf_276, kf_283, kf_284, kf_287, ki_200, ki_203, ki_216, ki_221, ki_224, ki_233, ki_268, ki_269, ki_272, ki_273, ki_276, ki_283, ki_284, ki_287, kv_200_0, kv_200_1, kv_200_2, kv_200_3, kv_200_4, kv_200_5, kv_200_6, kv_200_7, kv_200_8, kv_200_9, kv_200_10, kv_200_11, kv_203_0, kv_203_1, kv_203_2, kv_203_3, kv_203_4, kv_203_5, kv_216_0, kv_216_1, kv_216_2, kv_221_0, kv_221_1, kv_221_3, kv_224_0, kv_224_1, kv_224_2, kv_224_3, kv_233_0, kv_233_1, kv_233_2, kv_233_3, kv_233_4, kv_233_5, kv_233_6, kv_233_7, kv_233_8, kv_233_9, kv_233_10, kv_233_11, kv_233_12, kv_233_13, kv_268_0, kv_268_1, kv_268_2, kv_272_0, kv_272_1, kv_272_2, kv_276_0, kv_276_1, kv_276_2, kv_276_3, kv_283_0, kv_283_1, kv_283_2, kv_287_0, kv_287_1, kv_287_2, kv_287_3, kv_287_4, kv_287_5, kv_287_6, kv_287_7, kv_287_8, kv_287_9, kv_287_10, kv_287_11, kv_287_12, kv_287_13, kS_A, kS_S, kS_C, kS_SI, mI_A, mI_S, mI_C, nI_SI, mV_A, mV_S, mV_C, nV_SI, mK_A, mK_S, mK_C, nK_SI, mN_A, mN_S, mN_C, nN_SI, mL_A, mL_S, mL_C, nL_SI, tx_A, tx_S, tx_C, tx_SI, tx_v, tx_w, mIs_A, mIs_S, mIs_C, nIs_SI, kS_row, kS_r4, r_size, r_get, r_set, r_add, r_cut, rL_A, rL_S, rL_C, rL_An, rL_Sn, rL_Cn, rL_SI, rN_A, rN_S, rN_C, rN_SI]
