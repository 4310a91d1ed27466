/-! NAMES AND NUMBERS (class) -/
def eqL (x y : List Int32) : Nat → Nat → Bool
  | 0, _ => true
  | n + 1, i => if x.getD i 0 = y.getD i 0 then eqL x y n (i + 1) else false
theorem eqL_iff {x y : List Int32} : ∀ (n i : Nat), eqL x y n i = true ↔ ∀ j, i ≤ j → j < i + n → x.getD j 0 = y.getD j 0 := by
  intro n
  induction n with
  | zero => intro i; exact ⟨fun _ j h1 h2 => by omega, fun _ => rfl⟩
  | succ n ih =>
    intro i
    rw [eqL]
    by_cases c : x.getD i 0 = y.getD i 0
    · rw [if_pos c, ih (i + 1)]
      constructor
      · intro h j h1 h2
        by_cases e : j = i
        · rw [e]; exact c
        · exact h j (by omega) (by omega)
      · intro h j h1 h2; exact h j (by omega) (by omega)
    · rw [if_neg c]
      constructor
      · intro h; cases h
      · intro h; exact absurd (h i (by omega) (by omega)) c
theorem eqL_10 {x y : List Int32} (hx : x.length = 10) (hy : y.length = 10) : eqL x y 10 0 = decide (x = y) := by
  have h := eqL_iff (x := x) (y := y) 10 0
  by_cases c : x = y
  · rw [decide_eq_true c, h]
    intro j _ _; rw [c]
  · rw [decide_eq_false c]
    cases e : eqL x y 10 0
    · rfl
    · refine absurd ?_ c
      have h2 := h.mp e
      apply List.ext_getElem (by omega)
      intro j h3 h4
      have := h2 j (by omega) (by omega)
      rw [List.getD_eq_getElem?_getD, List.getD_eq_getElem?_getD, List.getElem?_eq_getElem h3, List.getElem?_eq_getElem h4] at this
      exact this
def w10 (N : List (List Int32)) : Prop := ∀ x, x ∈ N → x.length = 10
theorem fl_len : ∀ (N : List (List Int32)), w10 N → N.flatten.length = 10 * N.length := by
  intro N
  induction N with
  | nil => intro _; rfl
  | cons x N ih =>
    intro h
    rw [List.flatten_cons, List.length_append, ih (fun y hy => h y (List.mem_cons_of_mem _ hy)), h x List.mem_cons_self, List.length_cons]
    omega
theorem fl_get : ∀ (N : List (List Int32)) (k i : Nat), w10 N → k < N.length → i < 10 → N.flatten.getD (10 * k + i) 0 = (N.getD k []).getD i 0 := by
  intro N
  induction N with
  | nil => intro k i _ h _; cases h
  | cons x N ih =>
    intro k i h hk hi
    have hx := h x List.mem_cons_self
    rw [List.flatten_cons]
    cases k with
    | zero =>
      rw [List.getD_eq_getElem?_getD, List.getElem?_append_left (by omega), ← List.getD_eq_getElem?_getD, Nat.mul_zero, Nat.zero_add]
      rfl
    | succ k =>
      rw [List.length_cons] at hk
      rw [List.getD_eq_getElem?_getD, List.getElem?_append_right (by omega), hx, ← List.getD_eq_getElem?_getD, show 10 * (k + 1) + i - 10 = 10 * k + i by omega, ih k i (fun y hy => h y (List.mem_cons_of_mem _ hy)) (by omega) hi]
      rfl
/-- the number of a name among some, or -1 -/
def fnd (sg : List Int32) : List (List Int32) → Nat → Int32
  | [], _ => -1
  | x :: l, k => if x = sg then Int32.ofNat k else fnd sg l (k + 1)
theorem n_isName {d a k : Nat} {N : List (List Int32)} {sg : List Int32} {h : mH} (hk : kS h) (ha : isRow a = true) (hN : rL h a = N.flatten) (hw : w10 N) (hn : N.length ≤ 100) (hs : rL h 222 = sg) (hsl : sg.length = 10) (hkn : k < N.length) : mCall (d + 2) 77 [.ref 221, .ref a, .int (Int32.ofNat (10 * k))] h = some (.inl (some (.int (bz (decide (N.getD k [] = sg))))), h) := by
  have z0 : (0 : Int32) = 0 ∨ (0 : Int32) = 1 := Or.inl rfl
  have z1 : (1 : Int32) = 0 ∨ (1 : Int32) = 1 := Or.inr rfl
  have hx : (N.getD k []).length = 10 := by
    refine hw _ ?_
    rw [List.getD_eq_getElem?_getD, List.getElem?_eq_getElem hkn]
    exact List.getElem_mem hkn
  have lp : ∀ (n i : Nat), i + n = 10 → mExec (mCall (d + 1)) 77 2 [some (.ref 221), some (.ref a), some (.int (Int32.ofNat (10 * k))), some (.int (Int32.ofNat i))] [] h = some (.inl (some (.int (bz (eqL (N.getD k []) sg n i)))), h) := by
    intro n
    induction n with
    | zero =>
      intro i e
      have c1 : (10 : Int32) ≤ Int32.ofNat i := by rw [show (10 : Int32) = Int32.ofNat 10 from rfl, i_ofle (by omega) (by omega)]; omega
      rw [x_77_2]
      simp (maxDischargeDepth := 60) only [hk, x_77_0, x_77_1, x_77_3, x_77_5, x_77_8, x_77_9, x_77_10, x_77_11, x_77_12, x_77_15, x_77_16, x_77_19, x_77_20, x_77_23, x_77_26, x_77_27, x_77_28, x_77_31, x_77_34, x_77_35, c1, z1, Option.bind_some, mAft_n, mAft_v, mAft_x, mS_n, mS_i, mS_r, mS_l, mS_d, ne_eq, not_false_eq_true, not_true_eq_false, true_or, or_true, and_true, true_and, if_true, if_false, ite_true, ite_false, reduceIte, Nat.reduceAdd, Nat.reduceLeDiff, Nat.reduceEqDiff, false_and, and_false, or_false, false_or, eq_self, reduceCtorEq, kw_201, kw_204, kw_206, kw_208, kw_210, kw_212, kw_214, kw_217, kw_219, kw_222, kw_225, kw_227, kw_229, kw_231, kw_234, kw_236, kw_238, kw_240, kw_242, kw_244, kw_246, kw_248, kw_250, kw_252, kw_254, kw_256, kw_258, kw_260, kw_262, kw_264, kw_266, kw_270, kw_274, kw_277, kw_279, kw_281, kw_285, kw_288, kw_290, kw_292, kw_294, kw_296, kw_298, kw_300, kw_302, kw_304, kw_306, kw_308, kw_310, kw_312, kw_314, kn_201, kn_204, kn_206, kn_208, kn_210, kn_212, kn_214, kn_217, kn_219, kn_222, kn_225, kn_227, kn_229, kn_231, kn_234, kn_236, kn_238, kn_240, kn_242, kn_244, kn_246, kn_248, kn_250, kn_252, kn_254, kn_256, kn_258, kn_260, kn_262, kn_264, kn_266, kn_270, kn_274, kn_277, kn_279, kn_281, kn_285, kn_288, kn_290, kn_292, kn_294, kn_296, kn_298, kn_300, kn_302, kn_304, kn_306, kn_308, kn_310, kn_312, kn_314, kf_200, kf_203, kf_216, kf_221, kf_224, kf_233, kf_268, kf_269, kf_272, kf_273, kf_276, kf_283, kf_284, kf_287, ki_200, ki_203, ki_216, ki_221, ki_224, ki_233, ki_268, ki_269, ki_272, ki_273, ki_276, ki_283, ki_284, ki_287, kv_200_0, kv_200_1, kv_200_2, kv_200_3, kv_200_4, kv_200_5, kv_200_6, kv_200_7, kv_200_8, kv_200_9, kv_200_10, kv_200_11, kv_203_0, kv_203_1, kv_203_2, kv_203_3, kv_203_4, kv_203_5, kv_216_0, kv_216_1, kv_216_2, kv_221_0, kv_221_1, kv_221_3, kv_224_0, kv_224_1, kv_224_2, kv_224_3, kv_233_0, kv_233_1, kv_233_2, kv_233_3, kv_233_4, kv_233_5, kv_233_6, kv_233_7, kv_233_8, kv_233_9, kv_233_10, kv_233_11, kv_233_12, kv_233_13, kv_268_0, kv_268_1, kv_268_2, kv_272_0, kv_272_1, kv_272_2, kv_276_0, kv_276_1, kv_276_2, kv_276_3, kv_283_0, kv_283_1, kv_283_2, kv_287_0, kv_287_1, kv_287_2, kv_287_3, kv_287_4, kv_287_5, kv_287_6, kv_287_7, kv_287_8, kv_287_9, kv_287_10, kv_287_11, kv_287_12, kv_287_13, kS_A, kS_S, kS_C, kS_SI, mI_A, mI_S, mI_C, nI_SI, mV_A, mV_S, mV_C, nV_SI, mK_A, mK_S, mK_C, nK_SI, mN_A, mN_S, mN_C, nN_SI, mL_A, mL_S, mL_C, nL_SI, tx_A, tx_S, tx_C, tx_SI, tx_v, tx_w, mIs_A, mIs_S, mIs_C, nIs_SI, kS_row, kS_r4, r_size, r_get, r_set, r_add, r_cut, rL_A, rL_S, rL_C, rL_An, rL_Sn, rL_Cn, rL_SI, rN_A, rN_S, rN_C, rN_SI]
      rfl
    | succ n ih =>
      intro i e
      have c1 : ¬ (10 : Int32) ≤ Int32.ofNat i := by rw [show (10 : Int32) = Int32.ofNat 10 from rfl, i_ofle (by omega) (by omega)]; omega
      have g1 : lg N.flatten (Int32.ofNat (10 * k + i)) = (N.getD k []).getD i 0 := by rw [lg_of (by omega), fl_get N k i hw hkn (by omega)]
      have g2 : lg sg (Int32.ofNat i) = sg.getD i 0 := lg_of (by omega)
      rw [eqL, x_77_2]
      by_cases c2 : (N.getD k []).getD i 0 = sg.getD i 0
      · rw [if_pos c2, ← ih (i + 1) (by omega)]
        simp (maxDischargeDepth := 60) only [hk, x_77_0, x_77_1, x_77_3, x_77_5, x_77_8, x_77_9, x_77_10, x_77_11, x_77_12, x_77_15, x_77_16, x_77_19, x_77_20, x_77_23, x_77_26, x_77_27, x_77_28, x_77_31, x_77_34, x_77_35, c1, ha, hN, hs, i_addof, g1, g2, c2, i_succ, Option.bind_some, mAft_n, mAft_v, mAft_x, mS_n, mS_i, mS_r, mS_l, mS_d, ne_eq, not_false_eq_true, not_true_eq_false, true_or, or_true, and_true, true_and, if_true, if_false, ite_true, ite_false, reduceIte, Nat.reduceAdd, Nat.reduceLeDiff, Nat.reduceEqDiff, false_and, and_false, or_false, false_or, eq_self, reduceCtorEq, kw_201, kw_204, kw_206, kw_208, kw_210, kw_212, kw_214, kw_217, kw_219, kw_222, kw_225, kw_227, kw_229, kw_231, kw_234, kw_236, kw_238, kw_240, kw_242, kw_244, kw_246, kw_248, kw_250, kw_252, kw_254, kw_256, kw_258, kw_260, kw_262, kw_264, kw_266, kw_270, kw_274, kw_277, kw_279, kw_281, kw_285, kw_288, kw_290, kw_292, kw_294, kw_296, kw_298, kw_300, kw_302, kw_304, kw_306, kw_308, kw_310, kw_312, kw_314, kn_201, kn_204, kn_206, kn_208, kn_210, kn_212, kn_214, kn_217, kn_219, kn_222, kn_225, kn_227, kn_229, kn_231, kn_234, kn_236, kn_238, kn_240, kn_242, kn_244, kn_246, kn_248, kn_250, kn_252, kn_254, kn_256, kn_258, kn_260, kn_262, kn_264, kn_266, kn_270, kn_274, kn_277, kn_279, kn_281, kn_285, kn_288, kn_290, kn_292, kn_294, kn_296, kn_298, kn_300, kn_302, kn_304, kn_306, kn_308, kn_310, kn_312, kn_314, kf_200, kf_203, kf_216, kf_221, kf_224, kf_233, kf_268, kf_269, kf_272, kf_273, kf_276, kf_283, kf_284, kf_287, ki_200, ki_203, ki_216, ki_221, ki_224, ki_233, ki_268, ki_269, ki_272, ki_273, ki_276, ki_283, ki_284, ki_287, kv_200_0, kv_200_1, kv_200_2, kv_200_3, kv_200_4, kv_200_5, kv_200_6, kv_200_7, kv_200_8, kv_200_9, kv_200_10, kv_200_11, kv_203_0, kv_203_1, kv_203_2, kv_203_3, kv_203_4, kv_203_5, kv_216_0, kv_216_1, kv_216_2, kv_221_0, kv_221_1, kv_221_3, kv_224_0, kv_224_1, kv_224_2, kv_224_3, kv_233_0, kv_233_1, kv_233_2, kv_233_3, kv_233_4, kv_233_5, kv_233_6, kv_233_7, kv_233_8, kv_233_9, kv_233_10, kv_233_11, kv_233_12, kv_233_13, kv_268_0, kv_268_1, kv_268_2, kv_272_0, kv_272_1, kv_272_2, kv_276_0, kv_276_1, kv_276_2, kv_276_3, kv_283_0, kv_283_1, kv_283_2, kv_287_0, kv_287_1, kv_287_2, kv_287_3, kv_287_4, kv_287_5, kv_287_6, kv_287_7, kv_287_8, kv_287_9, kv_287_10, kv_287_11, kv_287_12, kv_287_13, kS_A, kS_S, kS_C, kS_SI, mI_A, mI_S, mI_C, nI_SI, mV_A, mV_S, mV_C, nV_SI, mK_A, mK_S, mK_C, nK_SI, mN_A, mN_S, mN_C, nN_SI, mL_A, mL_S, mL_C, nL_SI, tx_A, tx_S, tx_C, tx_SI, tx_v, tx_w, mIs_A, mIs_S, mIs_C, nIs_SI, kS_row, kS_r4, r_size, r_get, r_set, r_add, r_cut, rL_A, rL_S, rL_C, rL_An, rL_Sn, rL_Cn, rL_SI, rN_A, rN_S, rN_C, rN_SI]
      · rw [if_neg c2]
        simp (maxDischargeDepth := 60) only [hk, x_77_0, x_77_1, x_77_3, x_77_5, x_77_8, x_77_9, x_77_10, x_77_11, x_77_12, x_77_15, x_77_16, x_77_19, x_77_20, x_77_23, x_77_26, x_77_27, x_77_28, x_77_31, x_77_34, x_77_35, c1, ha, hN, hs, i_addof, g1, g2, c2, z0, Option.bind_some, mAft_n, mAft_v, mAft_x, mS_n, mS_i, mS_r, mS_l, mS_d, ne_eq, not_false_eq_true, not_true_eq_false, true_or, or_true, and_true, true_and, if_true, if_false, ite_true, ite_false, reduceIte, Nat.reduceAdd, Nat.reduceLeDiff, Nat.reduceEqDiff, false_and, and_false, or_false, false_or, eq_self, reduceCtorEq, kw_201, kw_204, kw_206, kw_208, kw_210, kw_212, kw_214, kw_217, kw_219, kw_222, kw_225, kw_227, kw_229, kw_231, kw_234, kw_236, kw_238, kw_240, kw_242, kw_244, kw_246, kw_248, kw_250, kw_252, kw_254, kw_256, kw_258, kw_260, kw_262, kw_264, kw_266, kw_270, kw_274, kw_277, kw_279, kw_281, kw_285, kw_288, kw_290, kw_292, kw_294, kw_296, kw_298, kw_300, kw_302, kw_304, kw_306, kw_308, kw_310, kw_312, kw_314, kn_201, kn_204, kn_206, kn_208, kn_210, kn_212, kn_214, kn_217, kn_219, kn_222, kn_225, kn_227, kn_229, kn_231, kn_234, kn_236, kn_238, kn_240, kn_242, kn_244, kn_246, kn_248, kn_250, kn_252, kn_254, kn_256, kn_258, kn_260, kn_262, kn_264, kn_266, kn_270, kn_274, kn_277, kn_279, kn_281, kn_285, kn_288, kn_290, kn_292, kn_294, kn_296, kn_298, kn_300, kn_302, kn_304, kn_306, kn_308, kn_310, kn_312, kn_314, kf_200, kf_203, kf_216, kf_221, kf_224, kf_233, kf_268, kf_269, kf_272, kf_273, kf_276, kf_283, kf_284, kf_287, ki_200, ki_203, ki_216, ki_221, ki_224, ki_233, ki_268, ki_269, ki_272, ki_273, ki_276, ki_283, ki_284, ki_287, kv_200_0, kv_200_1, kv_200_2, kv_200_3, kv_200_4, kv_200_5, kv_200_6, kv_200_7, kv_200_8, kv_200_9, kv_200_10, kv_200_11, kv_203_0, kv_203_1, kv_203_2, kv_203_3, kv_203_4, kv_203_5, kv_216_0, kv_216_1, kv_216_2, kv_221_0, kv_221_1, kv_221_3, kv_224_0, kv_224_1, kv_224_2, kv_224_3, kv_233_0, kv_233_1, kv_233_2, kv_233_3, kv_233_4, kv_233_5, kv_233_6, kv_233_7, kv_233_8, kv_233_9, kv_233_10, kv_233_11, kv_233_12, kv_233_13, kv_268_0, kv_268_1, kv_268_2, kv_272_0, kv_272_1, kv_272_2, kv_276_0, kv_276_1, kv_276_2, kv_276_3, kv_283_0, kv_283_1, kv_283_2, kv_287_0, kv_287_1, kv_287_2, kv_287_3, kv_287_4, kv_287_5, kv_287_6, kv_287_7, kv_287_8, kv_287_9, kv_287_10, kv_287_11, kv_287_12, kv_287_13, kS_A, kS_S, kS_C, kS_SI, mI_A, mI_S, mI_C, nI_SI, mV_A, mV_S, mV_C, nV_SI, mK_A, mK_S, mK_C, nK_SI, mN_A, mN_S, mN_C, nN_SI, mL_A, mL_S, mL_C, nL_SI, tx_A, tx_S, tx_C, tx_SI, tx_v, tx_w, mIs_A, mIs_S, mIs_C, nIs_SI, kS_row, kS_r4, r_size, r_get, r_set, r_add, r_cut, rL_A, rL_S, rL_C, rL_An, rL_Sn, rL_Cn, rL_SI, rN_A, rN_S, rN_C, rN_SI]
        rfl
  have := lp 10 0 (by omega)
  rw [eqL_10 hx hsl] at this
  simp only [c_77, x_77_0, x_77_1]
  exact this
theorem n_find {d a n : Nat} {N : List (List Int32)} {sg : List Int32} {h : mH} (hk : kS h) (ha : isRow a = true) (hN : rL h a = N.flatten) (hw : w10 N) (hn : N.length ≤ 100) (hs : rL h 222 = sg) (hsl : sg.length = 10) (hnn : n ≤ N.length) : mCall (d + 3) 78 [.ref 221, .ref a, .int (Int32.ofNat (10 * n))] h = some (.inl (some (.int (fnd sg (N.take n) 0))), h) := by
  have lp : ∀ (m k : Nat), k + m = n → mExec (mCall (d + 2)) 78 2 [some (.ref 221), some (.ref a), some (.int (Int32.ofNat (10 * n))), some (.int (Int32.ofNat (10 * k)))] [] h = some (.inl (some (.int (fnd sg ((N.take n).drop k) k))), h) := by
    intro m
    induction m with
    | zero =>
      intro k e
      have c1 : Int32.ofNat (10 * n) ≤ Int32.ofNat (10 * k) := by rw [i_ofle (by omega) (by omega)]; omega
      rw [List.drop_eq_nil_of_le (by rw [List.length_take]; omega), x_78_2]
      simp (maxDischargeDepth := 60) only [hk, x_78_0, x_78_1, x_78_3, x_78_4, x_78_7, x_78_8, x_78_9, x_78_10, x_78_13, x_78_16, x_78_17, x_78_19, x_78_20, x_78_21, x_78_24, x_78_27, x_78_28, c1, Option.bind_some, mAft_n, mAft_v, mAft_x, mS_n, mS_i, mS_r, mS_l, mS_d, ne_eq, not_false_eq_true, not_true_eq_false, true_or, or_true, and_true, true_and, if_true, if_false, ite_true, ite_false, reduceIte, Nat.reduceAdd, Nat.reduceLeDiff, Nat.reduceEqDiff, false_and, and_false, or_false, false_or, eq_self, reduceCtorEq, kw_201, kw_204, kw_206, kw_208, kw_210, kw_212, kw_214, kw_217, kw_219, kw_222, kw_225, kw_227, kw_229, kw_231, kw_234, kw_236, kw_238, kw_240, kw_242, kw_244, kw_246, kw_248, kw_250, kw_252, kw_254, kw_256, kw_258, kw_260, kw_262, kw_264, kw_266, kw_270, kw_274, kw_277, kw_279, kw_281, kw_285, kw_288, kw_290, kw_292, kw_294, kw_296, kw_298, kw_300, kw_302, kw_304, kw_306, kw_308, kw_310, kw_312, kw_314, kn_201, kn_204, kn_206, kn_208, kn_210, kn_212, kn_214, kn_217, kn_219, kn_222, kn_225, kn_227, kn_229, kn_231, kn_234, kn_236, kn_238, kn_240, kn_242, kn_244, kn_246, kn_248, kn_250, kn_252, kn_254, kn_256, kn_258, kn_260, kn_262, kn_264, kn_266, kn_270, kn_274, kn_277, kn_279, kn_281, kn_285, kn_288, kn_290, kn_292, kn_294, kn_296, kn_298, kn_300, kn_302, kn_304, kn_306, kn_308, kn_310, kn_312, kn_314, kf_200, kf_203, kf_216, kf_221, kf_224, kf_233, kf_268, kf_269, kf_272, kf_273, kf_276, kf_283, kf_284, kf_287, ki_200, ki_203, ki_216, ki_221, ki_224, ki_233, ki_268, ki_269, ki_272, ki_273, ki_276, ki_283, ki_284, ki_287, kv_200_0, kv_200_1, kv_200_2, kv_200_3, kv_200_4, kv_200_5, kv_200_6, kv_200_7, kv_200_8, kv_200_9, kv_200_10, kv_200_11, kv_203_0, kv_203_1, kv_203_2, kv_203_3, kv_203_4, kv_203_5, kv_216_0, kv_216_1, kv_216_2, kv_221_0, kv_221_1, kv_221_3, kv_224_0, kv_224_1, kv_224_2, kv_224_3, kv_233_0, kv_233_1, kv_233_2, kv_233_3, kv_233_4, kv_233_5, kv_233_6, kv_233_7, kv_233_8, kv_233_9, kv_233_10, kv_233_11, kv_233_12, kv_233_13, kv_268_0, kv_268_1, kv_268_2, kv_272_0, kv_272_1, kv_272_2, kv_276_0, kv_276_1, kv_276_2, kv_276_3, kv_283_0, kv_283_1, kv_283_2, kv_287_0, kv_287_1, kv_287_2, kv_287_3, kv_287_4, kv_287_5, kv_287_6, kv_287_7, kv_287_8, kv_287_9, kv_287_10, kv_287_11, kv_287_12, kv_287_13, kS_A, kS_S, kS_C, kS_SI, mI_A, mI_S, mI_C, nI_SI, mV_A, mV_S, mV_C, nV_SI, mK_A, mK_S, mK_C, nK_SI, mN_A, mN_S, mN_C, nN_SI, mL_A, mL_S, mL_C, nL_SI, tx_A, tx_S, tx_C, tx_SI, tx_v, tx_w, mIs_A, mIs_S, mIs_C, nIs_SI, kS_row, kS_r4, r_size, r_get, r_set, r_add, r_cut, rL_A, rL_S, rL_C, rL_An, rL_Sn, rL_Cn, rL_SI, rN_A, rN_S, rN_C, rN_SI]
      rfl
    | succ m ih =>
      intro k e
      have c1 : ¬ Int32.ofNat (10 * n) ≤ Int32.ofNat (10 * k) := by rw [i_ofle (by omega) (by omega)]; omega
      have e1 := n_isName (d := d) (k := k) hk ha hN hw hn hs hsl (by omega)
      have e2 : (N.take n).drop k = N.getD k [] :: (N.take n).drop (k + 1) := by
        rw [List.getD_eq_getElem?_getD, List.getElem?_eq_getElem (by omega)]
        have hl : k < (N.take n).length := by rw [List.length_take]; omega
        rw [List.drop_eq_getElem_cons hl, List.getElem_take]
        rfl
      have e3 : Int32.ofNat (10 * k) / 10 = Int32.ofNat k := by
        rw [show (10 : Int32) = Int32.ofNat 10 from rfl, i_div (by omega) (by omega) (by omega)]
        congr 1; omega
      have e4 : Int32.ofNat (10 * k) + 10 = Int32.ofNat (10 * (k + 1)) := by
        rw [show (10 : Int32) = Int32.ofNat 10 from rfl, i_addof]
        congr 1
      have n10 : ¬ (10 : Int32) = 0 := by decide
      rw [e2, fnd, x_78_2]
      by_cases c2 : N.getD k [] = sg
      · rw [decide_eq_true c2] at e1
        rw [if_pos c2]
        simp (maxDischargeDepth := 60) only [hk, x_78_0, x_78_1, x_78_3, x_78_4, x_78_7, x_78_8, x_78_9, x_78_10, x_78_13, x_78_16, x_78_17, x_78_19, x_78_20, x_78_21, x_78_24, x_78_27, x_78_28, c1, e1, bz_0, Bool.true_eq_false, n10, e3, Option.bind_some, mAft_n, mAft_v, mAft_x, mS_n, mS_i, mS_r, mS_l, mS_d, ne_eq, not_false_eq_true, not_true_eq_false, true_or, or_true, and_true, true_and, if_true, if_false, ite_true, ite_false, reduceIte, Nat.reduceAdd, Nat.reduceLeDiff, Nat.reduceEqDiff, false_and, and_false, or_false, false_or, eq_self, reduceCtorEq, kw_201, kw_204, kw_206, kw_208, kw_210, kw_212, kw_214, kw_217, kw_219, kw_222, kw_225, kw_227, kw_229, kw_231, kw_234, kw_236, kw_238, kw_240, kw_242, kw_244, kw_246, kw_248, kw_250, kw_252, kw_254, kw_256, kw_258, kw_260, kw_262, kw_264, kw_266, kw_270, kw_274, kw_277, kw_279, kw_281, kw_285, kw_288, kw_290, kw_292, kw_294, kw_296, kw_298, kw_300, kw_302, kw_304, kw_306, kw_308, kw_310, kw_312, kw_314, kn_201, kn_204, kn_206, kn_208, kn_210, kn_212, kn_214, kn_217, kn_219, kn_222, kn_225, kn_227, kn_229, kn_231, kn_234, kn_236, kn_238, kn_240, kn_242, kn_244, kn_246, kn_248, kn_250, kn_252, kn_254, kn_256, kn_258, kn_260, kn_262, kn_264, kn_266, kn_270, kn_274, kn_277, kn_279, kn_281, kn_285, kn_288, kn_290, kn_292, kn_294, kn_296, kn_298, kn_300, kn_302, kn_304, kn_306, kn_308, kn_310, kn_312, kn_314, kf_200, kf_203, kf_216, kf_221, kf_224, kf_233, kf_268, kf_269, kf_272, kf_273, kf_276, kf_283, kf_284, kf_287, ki_200, ki_203, ki_216, ki_221, ki_224, ki_233, ki_268, ki_269, ki_272, ki_273, ki_276, ki_283, ki_284, ki_287, kv_200_0, kv_200_1, kv_200_2, kv_200_3, kv_200_4, kv_200_5, kv_200_6, kv_200_7, kv_200_8, kv_200_9, kv_200_10, kv_200_11, kv_203_0, kv_203_1, kv_203_2, kv_203_3, kv_203_4, kv_203_5, kv_216_0, kv_216_1, kv_216_2, kv_221_0, kv_221_1, kv_221_3, kv_224_0, kv_224_1, kv_224_2, kv_224_3, kv_233_0, kv_233_1, kv_233_2, kv_233_3, kv_233_4, kv_233_5, kv_233_6, kv_233_7, kv_233_8, kv_233_9, kv_233_10, kv_233_11, kv_233_12, kv_233_13, kv_268_0, kv_268_1, kv_268_2, kv_272_0, kv_272_1, kv_272_2, kv_276_0, kv_276_1, kv_276_2, kv_276_3, kv_283_0, kv_283_1, kv_283_2, kv_287_0, kv_287_1, kv_287_2, kv_287_3, kv_287_4, kv_287_5, kv_287_6, kv_287_7, kv_287_8, kv_287_9, kv_287_10, kv_287_11, kv_287_12, kv_287_13, kS_A, kS_S, kS_C, kS_SI, mI_A, mI_S, mI_C, nI_SI, mV_A, mV_S, mV_C, nV_SI, mK_A, mK_S, mK_C, nK_SI, mN_A, mN_S, mN_C, nN_SI, mL_A, mL_S, mL_C, nL_SI, tx_A, tx_S, tx_C, tx_SI, tx_v, tx_w, mIs_A, mIs_S, mIs_C, nIs_SI, kS_row, kS_r4, r_size, r_get, r_set, r_add, r_cut, rL_A, rL_S, rL_C, rL_An, rL_Sn, rL_Cn, rL_SI, rN_A, rN_S, rN_C, rN_SI]
      · rw [decide_eq_false c2] at e1
        rw [if_neg c2, ← ih (k + 1) (by omega)]
        simp (maxDischargeDepth := 60) only [hk, x_78_0, x_78_1, x_78_3, x_78_4, x_78_7, x_78_8, x_78_9, x_78_10, x_78_13, x_78_16, x_78_17, x_78_19, x_78_20, x_78_21, x_78_24, x_78_27, x_78_28, c1, e1, bz_0, e4, Option.bind_some, mAft_n, mAft_v, mAft_x, mS_n, mS_i, mS_r, mS_l, mS_d, ne_eq, not_false_eq_true, not_true_eq_false, true_or, or_true, and_true, true_and, if_true, if_false, ite_true, ite_false, reduceIte, Nat.reduceAdd, Nat.reduceLeDiff, Nat.reduceEqDiff, false_and, and_false, or_false, false_or, eq_self, reduceCtorEq, kw_201, kw_204, kw_206, kw_208, kw_210, kw_212, kw_214, kw_217, kw_219, kw_222, kw_225, kw_227, kw_229, kw_231, kw_234, kw_236, kw_238, kw_240, kw_242, kw_244, kw_246, kw_248, kw_250, kw_252, kw_254, kw_256, kw_258, kw_260, kw_262, kw_264, kw_266, kw_270, kw_274, kw_277, kw_279, kw_281, kw_285, kw_288, kw_290, kw_292, kw_294, kw_296, kw_298, kw_300, kw_302, kw_304, kw_306, kw_308, kw_310, kw_312, kw_314, kn_201, kn_204, kn_206, kn_208, kn_210, kn_212, kn_214, kn_217, kn_219, kn_222, kn_225, kn_227, kn_229, kn_231, kn_234, kn_236, kn_238, kn_240, kn_242, kn_244, kn_246, kn_248, kn_250, kn_252, kn_254, kn_256, kn_258, kn_260, kn_262, kn_264, kn_266, kn_270, kn_274, kn_277, kn_279, kn_281, kn_285, kn_288, kn_290, kn_292, kn_294, kn_296, kn_298, kn_300, kn_302, kn_304, kn_306, kn_308, kn_310, kn_312, kn_314, kf_200, kf_203, kf_216, kf_221, kf_224, kf_233, kf_268, kf_269, kf_272, kf_273, kf_276, kf_283, kf_284, kf_287, ki_200, ki_203, ki_216, ki_221, ki_224, ki_233, ki_268, ki_269, ki_272, ki_273, ki_276, ki_283, ki_284, ki_287, kv_200_0, kv_200_1, kv_200_2, kv_200_3, kv_200_4, kv_200_5, kv_200_6, kv_200_7, kv_200_8, kv_200_9, kv_200_10, kv_200_11, kv_203_0, kv_203_1, kv_203_2, kv_203_3, kv_203_4, kv_203_5, kv_216_0, kv_216_1, kv_216_2, kv_221_0, kv_221_1, kv_221_3, kv_224_0, kv_224_1, kv_224_2, kv_224_3, kv_233_0, kv_233_1, kv_233_2, kv_233_3, kv_233_4, kv_233_5, kv_233_6, kv_233_7, kv_233_8, kv_233_9, kv_233_10, kv_233_11, kv_233_12, kv_233_13, kv_268_0, kv_268_1, kv_268_2, kv_272_0, kv_272_1, kv_272_2, kv_276_0, kv_276_1, kv_276_2, kv_276_3, kv_283_0, kv_283_1, kv_283_2, kv_287_0, kv_287_1, kv_287_2, kv_287_3, kv_287_4, kv_287_5, kv_287_6, kv_287_7, kv_287_8, kv_287_9, kv_287_10, kv_287_11, kv_287_12, kv_287_13, kS_A, kS_S, kS_C, kS_SI, mI_A, mI_S, mI_C, nI_SI, mV_A, mV_S, mV_C, nV_SI, mK_A, mK_S, mK_C, nK_SI, mN_A, mN_S, mN_C, nN_SI, mL_A, mL_S, mL_C, nL_SI, tx_A, tx_S, tx_C, tx_SI, tx_v, tx_w, mIs_A, mIs_S, mIs_C, nIs_SI, kS_row, kS_r4, r_size, r_get, r_set, r_add, r_cut, rL_A, rL_S, rL_C, rL_An, rL_Sn, rL_Cn, rL_SI, rN_A, rN_S, rN_C, rN_SI]
  have := lp n 0 (by omega)
  rw [List.drop_zero] at this
  simp only [c_78, x_78_0, x_78_1]
  exact this
theorem n_findall {d a : Nat} {N : List (List Int32)} {sg : List Int32} {h : mH} (hk : kS h) (ha : isRow a = true) (hN : rL h a = N.flatten) (hw : w10 N) (hn : N.length ≤ 100) (hs : rL h 222 = sg) (hsl : sg.length = 10) : mCall (d + 3) 78 [.ref 221, .ref a, .int (Int32.ofNat N.flatten.length)] h = some (.inl (some (.int (fnd sg N 0))), h) := by
  have := n_find (d := d) (n := N.length) hk ha hN hw hn hs hsl (Nat.le_refl _)
  rw [List.take_length] at this
  rw [fl_len N hw]
  exact this
theorem n_findneg {d a : Nat} {x : Int32} {h : mH} (hx : x < 0) : mCall (d + 3) 78 [.ref 221, .ref a, .int x] h = some (.inl (some (.int (-1))), h) := by
  have c1 : x ≤ 0 := by rw [i_le]; rw [i_lt] at hx; omega
  simp only [x_78_0, x_78_1, x_78_2, x_78_3, x_78_4, x_78_7, x_78_8, x_78_9, x_78_10, x_78_13, x_78_16, x_78_17, x_78_19, x_78_20, x_78_21, x_78_24, x_78_27, x_78_28, c_78, c1, if_true]
def sgn (B : List Int32) (s len : Nat) : List Int32 := (List.range 10).map (fun i => if i < len then B.getD (s + i) 0 else 0)
theorem sgn_len {B : List Int32} {s len : Nat} : (sgn B s len).length = 10 := by unfold sgn; rw [List.length_map, List.length_range]
theorem n_spell {d s len : Nat} {B : List Int32} {h : mH} (hk : kS h) (hB : rL h 201 = B) (hs : s ≤ 2000) (hl : len ≤ 2000) :
    ∃ H, mCall (d + 2) 73 [.ref 221, .int (Int32.ofNat s), .int (Int32.ofNat len)] h = some (.inl none, H) ∧ kS H ∧ rL H 222 = sgn B s len ∧ Fr [222, 223] h H := by
  have lp : ∀ (n i : Nat) (h : mH), i + n = 10 → kS h → rL h 201 = B → rL h 222 = (sgn B s len).take i → ∃ H, mExec (mCall (d + 1)) 73 10 [some (.ref 221), some (.int (Int32.ofNat s)), some (.int (Int32.ofNat len)), some (.int (Int32.ofNat i))] [] h = some (.inl none, H) ∧ kS H ∧ rL H 222 = sgn B s len ∧ Fr [222, 223] h H := by
    intro n
    induction n with
    | zero =>
      intro i h e hk hB hS
      have c1 : (10 : Int32) ≤ Int32.ofNat i := by rw [show (10 : Int32) = Int32.ofNat 10 from rfl, i_ofle (by omega) (by omega)]; omega
      refine ⟨h, ?_, hk, ?_, Fr_refl⟩
      · rw [x_73_10]
        simp (maxDischargeDepth := 60) only [hk, x_73_0, x_73_1, x_73_4, x_73_5, x_73_8, x_73_9, x_73_11, x_73_13, x_73_16, x_73_17, x_73_20, x_73_21, x_73_22, x_73_25, x_73_26, x_73_29, x_73_30, x_73_31, x_73_32, x_73_35, x_73_38, x_73_39, x_73_42, x_73_45, x_73_48, c1, Option.bind_some, mAft_n, mAft_v, mAft_x, mS_n, mS_i, mS_r, mS_l, mS_d, ne_eq, not_false_eq_true, not_true_eq_false, true_or, or_true, and_true, true_and, if_true, if_false, ite_true, ite_false, reduceIte, Nat.reduceAdd, Nat.reduceLeDiff, Nat.reduceEqDiff, false_and, and_false, or_false, false_or, eq_self, reduceCtorEq, kw_201, kw_204, kw_206, kw_208, kw_210, kw_212, kw_214, kw_217, kw_219, kw_222, kw_225, kw_227, kw_229, kw_231, kw_234, kw_236, kw_238, kw_240, kw_242, kw_244, kw_246, kw_248, kw_250, kw_252, kw_254, kw_256, kw_258, kw_260, kw_262, kw_264, kw_266, kw_270, kw_274, kw_277, kw_279, kw_281, kw_285, kw_288, kw_290, kw_292, kw_294, kw_296, kw_298, kw_300, kw_302, kw_304, kw_306, kw_308, kw_310, kw_312, kw_314, kn_201, kn_204, kn_206, kn_208, kn_210, kn_212, kn_214, kn_217, kn_219, kn_222, kn_225, kn_227, kn_229, kn_231, kn_234, kn_236, kn_238, kn_240, kn_242, kn_244, kn_246, kn_248, kn_250, kn_252, kn_254, kn_256, kn_258, kn_260, kn_262, kn_264, kn_266, kn_270, kn_274, kn_277, kn_279, kn_281, kn_285, kn_288, kn_290, kn_292, kn_294, kn_296, kn_298, kn_300, kn_302, kn_304, kn_306, kn_308, kn_310, kn_312, kn_314, kf_200, kf_203, kf_216, kf_221, kf_224, kf_233, kf_268, kf_269, kf_272, kf_273, kf_276, kf_283, kf_284, kf_287, ki_200, ki_203, ki_216, ki_221, ki_224, ki_233, ki_268, ki_269, ki_272, ki_273, ki_276, ki_283, ki_284, ki_287, kv_200_0, kv_200_1, kv_200_2, kv_200_3, kv_200_4, kv_200_5, kv_200_6, kv_200_7, kv_200_8, kv_200_9, kv_200_10, kv_200_11, kv_203_0, kv_203_1, kv_203_2, kv_203_3, kv_203_4, kv_203_5, kv_216_0, kv_216_1, kv_216_2, kv_221_0, kv_221_1, kv_221_3, kv_224_0, kv_224_1, kv_224_2, kv_224_3, kv_233_0, kv_233_1, kv_233_2, kv_233_3, kv_233_4, kv_233_5, kv_233_6, kv_233_7, kv_233_8, kv_233_9, kv_233_10, kv_233_11, kv_233_12, kv_233_13, kv_268_0, kv_268_1, kv_268_2, kv_272_0, kv_272_1, kv_272_2, kv_276_0, kv_276_1, kv_276_2, kv_276_3, kv_283_0, kv_283_1, kv_283_2, kv_287_0, kv_287_1, kv_287_2, kv_287_3, kv_287_4, kv_287_5, kv_287_6, kv_287_7, kv_287_8, kv_287_9, kv_287_10, kv_287_11, kv_287_12, kv_287_13, kS_A, kS_S, kS_C, kS_SI, mI_A, mI_S, mI_C, nI_SI, mV_A, mV_S, mV_C, nV_SI, mK_A, mK_S, mK_C, nK_SI, mN_A, mN_S, mN_C, nN_SI, mL_A, mL_S, mL_C, nL_SI, tx_A, tx_S, tx_C, tx_SI, tx_v, tx_w, mIs_A, mIs_S, mIs_C, nIs_SI, kS_row, kS_r4, r_size, r_get, r_set, r_add, r_cut, rL_A, rL_S, rL_C, rL_An, rL_Sn, rL_Cn, rL_SI, rN_A, rN_S, rN_C, rN_SI]
      · rw [hS, List.take_of_length_le (by rw [sgn_len]; omega)]
    | succ n ih =>
      intro i h e hk hB hS
      have c1 : ¬ (10 : Int32) ≤ Int32.ofNat i := by rw [show (10 : Int32) = Int32.ofNat 10 from rfl, i_ofle (by omega) (by omega)]; omega
      have g1 : lg B (Int32.ofNat (s + i)) = B.getD (s + i) 0 := lg_of (by omega)
      have c2 : (Int32.ofNat len ≤ Int32.ofNat i) = (len ≤ i) := i_ofle (by omega) (by omega)
      have eS : (sgn B s len)[i]? = some (if i < len then B.getD (s + i) 0 else 0) := by
        unfold sgn
        rw [List.getElem?_map, List.getElem?_range (by omega)]; rfl
      have eT : ∀ x, some x = (sgn B s len)[i]? → rL (rA h 222 x) 222 = (sgn B s len).take (i + 1) := by
        intro x ex
        rw [rL_A hk kw_222, kn_222 hk, hS]
        unfold la
        rw [List.length_take, sgn_len, if_pos (by omega), List.take_add_one, ← ex]; rfl
      by_cases c3 : i < len
      · rw [if_pos c3] at eS
        obtain ⟨H, a1, a2, a3, a4⟩ := ih (i + 1) (rA h 222 (B.getD (s + i) 0)) (by omega) (kS_A hk kw_222) ((rL_An kw_222 kw_201 (by decide)).trans hB) (eT _ eS.symm)
        refine ⟨H, ?_, a2, a3, Fr_trans (Fr_A Fr_refl (by decide) (by decide)) a4⟩
        have c3' : ¬ len ≤ i := by omega
        rw [← a1, x_73_10]
        simp (maxDischargeDepth := 60) only [hk, x_73_0, x_73_1, x_73_4, x_73_5, x_73_8, x_73_9, x_73_11, x_73_13, x_73_16, x_73_17, x_73_20, x_73_21, x_73_22, x_73_25, x_73_26, x_73_29, x_73_30, x_73_31, x_73_32, x_73_35, x_73_38, x_73_39, x_73_42, x_73_45, x_73_48, c1, c2, c3', hB, i_addof, g1, i_succ, Option.bind_some, mAft_n, mAft_v, mAft_x, mS_n, mS_i, mS_r, mS_l, mS_d, ne_eq, not_false_eq_true, not_true_eq_false, true_or, or_true, and_true, true_and, if_true, if_false, ite_true, ite_false, reduceIte, Nat.reduceAdd, Nat.reduceLeDiff, Nat.reduceEqDiff, false_and, and_false, or_false, false_or, eq_self, reduceCtorEq, kw_201, kw_204, kw_206, kw_208, kw_210, kw_212, kw_214, kw_217, kw_219, kw_222, kw_225, kw_227, kw_229, kw_231, kw_234, kw_236, kw_238, kw_240, kw_242, kw_244, kw_246, kw_248, kw_250, kw_252, kw_254, kw_256, kw_258, kw_260, kw_262, kw_264, kw_266, kw_270, kw_274, kw_277, kw_279, kw_281, kw_285, kw_288, kw_290, kw_292, kw_294, kw_296, kw_298, kw_300, kw_302, kw_304, kw_306, kw_308, kw_310, kw_312, kw_314, kn_201, kn_204, kn_206, kn_208, kn_210, kn_212, kn_214, kn_217, kn_219, kn_222, kn_225, kn_227, kn_229, kn_231, kn_234, kn_236, kn_238, kn_240, kn_242, kn_244, kn_246, kn_248, kn_250, kn_252, kn_254, kn_256, kn_258, kn_260, kn_262, kn_264, kn_266, kn_270, kn_274, kn_277, kn_279, kn_281, kn_285, kn_288, kn_290, kn_292, kn_294, kn_296, kn_298, kn_300, kn_302, kn_304, kn_306, kn_308, kn_310, kn_312, kn_314, kf_200, kf_203, kf_216, kf_221, kf_224, kf_233, kf_268, kf_269, kf_272, kf_273, kf_276, kf_283, kf_284, kf_287, ki_200, ki_203, ki_216, ki_221, ki_224, ki_233, ki_268, ki_269, ki_272, ki_273, ki_276, ki_283, ki_284, ki_287, kv_200_0, kv_200_1, kv_200_2, kv_200_3, kv_200_4, kv_200_5, kv_200_6, kv_200_7, kv_200_8, kv_200_9, kv_200_10, kv_200_11, kv_203_0, kv_203_1, kv_203_2, kv_203_3, kv_203_4, kv_203_5, kv_216_0, kv_216_1, kv_216_2, kv_221_0, kv_221_1, kv_221_3, kv_224_0, kv_224_1, kv_224_2, kv_224_3, kv_233_0, kv_233_1, kv_233_2, kv_233_3, kv_233_4, kv_233_5, kv_233_6, kv_233_7, kv_233_8, kv_233_9, kv_233_10, kv_233_11, kv_233_12, kv_233_13, kv_268_0, kv_268_1, kv_268_2, kv_272_0, kv_272_1, kv_272_2, kv_276_0, kv_276_1, kv_276_2, kv_276_3, kv_283_0, kv_283_1, kv_283_2, kv_287_0, kv_287_1, kv_287_2, kv_287_3, kv_287_4, kv_287_5, kv_287_6, kv_287_7, kv_287_8, kv_287_9, kv_287_10, kv_287_11, kv_287_12, kv_287_13, kS_A, kS_S, kS_C, kS_SI, mI_A, mI_S, mI_C, nI_SI, mV_A, mV_S, mV_C, nV_SI, mK_A, mK_S, mK_C, nK_SI, mN_A, mN_S, mN_C, nN_SI, mL_A, mL_S, mL_C, nL_SI, tx_A, tx_S, tx_C, tx_SI, tx_v, tx_w, mIs_A, mIs_S, mIs_C, nIs_SI, kS_row, kS_r4, r_size, r_get, r_set, r_add, r_cut, rL_A, rL_S, rL_C, rL_An, rL_Sn, rL_Cn, rL_SI, rN_A, rN_S, rN_C, rN_SI]
      · rw [if_neg c3] at eS
        obtain ⟨H, a1, a2, a3, a4⟩ := ih (i + 1) (rA h 222 0) (by omega) (kS_A hk kw_222) ((rL_An kw_222 kw_201 (by decide)).trans hB) (eT _ eS.symm)
        refine ⟨H, ?_, a2, a3, Fr_trans (Fr_A Fr_refl (by decide) (by decide)) a4⟩
        have c3' : len ≤ i := by omega
        rw [← a1, x_73_10]
        simp (maxDischargeDepth := 60) only [hk, x_73_0, x_73_1, x_73_4, x_73_5, x_73_8, x_73_9, x_73_11, x_73_13, x_73_16, x_73_17, x_73_20, x_73_21, x_73_22, x_73_25, x_73_26, x_73_29, x_73_30, x_73_31, x_73_32, x_73_35, x_73_38, x_73_39, x_73_42, x_73_45, x_73_48, c1, c2, c3', i_succ, Option.bind_some, mAft_n, mAft_v, mAft_x, mS_n, mS_i, mS_r, mS_l, mS_d, ne_eq, not_false_eq_true, not_true_eq_false, true_or, or_true, and_true, true_and, if_true, if_false, ite_true, ite_false, reduceIte, Nat.reduceAdd, Nat.reduceLeDiff, Nat.reduceEqDiff, false_and, and_false, or_false, false_or, eq_self, reduceCtorEq, kw_201, kw_204, kw_206, kw_208, kw_210, kw_212, kw_214, kw_217, kw_219, kw_222, kw_225, kw_227, kw_229, kw_231, kw_234, kw_236, kw_238, kw_240, kw_242, kw_244, kw_246, kw_248, kw_250, kw_252, kw_254, kw_256, kw_258, kw_260, kw_262, kw_264, kw_266, kw_270, kw_274, kw_277, kw_279, kw_281, kw_285, kw_288, kw_290, kw_292, kw_294, kw_296, kw_298, kw_300, kw_302, kw_304, kw_306, kw_308, kw_310, kw_312, kw_314, kn_201, kn_204, kn_206, kn_208, kn_210, kn_212, kn_214, kn_217, kn_219, kn_222, kn_225, kn_227, kn_229, kn_231, kn_234, kn_236, kn_238, kn_240, kn_242, kn_244, kn_246, kn_248, kn_250, kn_252, kn_254, kn_256, kn_258, kn_260, kn_262, kn_264, kn_266, kn_270, kn_274, kn_277, kn_279, kn_281, kn_285, kn_288, kn_290, kn_292, kn_294, kn_296, kn_298, kn_300, kn_302, kn_304, kn_306, kn_308, kn_310, kn_312, kn_314, kf_200, kf_203, kf_216, kf_221, kf_224, kf_233, kf_268, kf_269, kf_272, kf_273, kf_276, kf_283, kf_284, kf_287, ki_200, ki_203, ki_216, ki_221, ki_224, ki_233, ki_268, ki_269, ki_272, ki_273, ki_276, ki_283, ki_284, ki_287, kv_200_0, kv_200_1, kv_200_2, kv_200_3, kv_200_4, kv_200_5, kv_200_6, kv_200_7, kv_200_8, kv_200_9, kv_200_10, kv_200_11, kv_203_0, kv_203_1, kv_203_2, kv_203_3, kv_203_4, kv_203_5, kv_216_0, kv_216_1, kv_216_2, kv_221_0, kv_221_1, kv_221_3, kv_224_0, kv_224_1, kv_224_2, kv_224_3, kv_233_0, kv_233_1, kv_233_2, kv_233_3, kv_233_4, kv_233_5, kv_233_6, kv_233_7, kv_233_8, kv_233_9, kv_233_10, kv_233_11, kv_233_12, kv_233_13, kv_268_0, kv_268_1, kv_268_2, kv_272_0, kv_272_1, kv_272_2, kv_276_0, kv_276_1, kv_276_2, kv_276_3, kv_283_0, kv_283_1, kv_283_2, kv_287_0, kv_287_1, kv_287_2, kv_287_3, kv_287_4, kv_287_5, kv_287_6, kv_287_7, kv_287_8, kv_287_9, kv_287_10, kv_287_11, kv_287_12, kv_287_13, kS_A, kS_S, kS_C, kS_SI, mI_A, mI_S, mI_C, nI_SI, mV_A, mV_S, mV_C, nV_SI, mK_A, mK_S, mK_C, nK_SI, mN_A, mN_S, mN_C, nN_SI, mL_A, mL_S, mL_C, nL_SI, tx_A, tx_S, tx_C, tx_SI, tx_v, tx_w, mIs_A, mIs_S, mIs_C, nIs_SI, kS_row, kS_r4, r_size, r_get, r_set, r_add, r_cut, rL_A, rL_S, rL_C, rL_An, rL_Sn, rL_Cn, rL_SI, rN_A, rN_S, rN_C, rN_SI]
  obtain ⟨H, a1, a2, a3, a4⟩ := lp 10 0 (rC h 222 0) (by omega) (kS_C hk kw_222) ((rL_Cn kw_222 kw_201 (by decide)).trans hB) (by rw [rL_C hk kw_222, lc_0]; rfl)
  refine ⟨H, ?_, a2, a3, Fr_trans (Fr_C Fr_refl (by decide) (by decide)) a4⟩
  rw [← a1]
  simp (maxDischargeDepth := 60) only [hk, x_73_0, x_73_1, x_73_4, x_73_5, x_73_8, x_73_9, x_73_11, x_73_13, x_73_16, x_73_17, x_73_20, x_73_21, x_73_22, x_73_25, x_73_26, x_73_29, x_73_30, x_73_31, x_73_32, x_73_35, x_73_38, x_73_39, x_73_42, x_73_45, x_73_48, c_73, Option.bind_some, mAft_n, mAft_v, mAft_x, mS_n, mS_i, mS_r, mS_l, mS_d, ne_eq, not_false_eq_true, not_true_eq_false, true_or, or_true, and_true, true_and, if_true, if_false, ite_true, ite_false, reduceIte, Nat.reduceAdd, Nat.reduceLeDiff, Nat.reduceEqDiff, false_and, and_false, or_false, false_or, eq_self, reduceCtorEq, kw_201, kw_204, kw_206, kw_208, kw_210, kw_212, kw_214, kw_217, kw_219, kw_222, kw_225, kw_227, kw_229, kw_231, kw_234, kw_236, kw_238, kw_240, kw_242, kw_244, kw_246, kw_248, kw_250, kw_252, kw_254, kw_256, kw_258, kw_260, kw_262, kw_264, kw_266, kw_270, kw_274, kw_277, kw_279, kw_281, kw_285, kw_288, kw_290, kw_292, kw_294, kw_296, kw_298, kw_300, kw_302, kw_304, kw_306, kw_308, kw_310, kw_312, kw_314, kn_201, kn_204, kn_206, kn_208, kn_210, kn_212, kn_214, kn_217, kn_219, kn_222, kn_225, kn_227, kn_229, kn_231, kn_234, kn_236, kn_238, kn_240, kn_242, kn_244, kn_246, kn_248, kn_250, kn_252, kn_254, kn_256, kn_258, kn_260, kn_262, kn_264, kn_266, kn_270, kn_274, kn_277, kn_279, kn_281, kn_285, kn_288, kn_290, kn_292, kn_294, kn_296, kn_298, kn_300, kn_302, kn_304, kn_306, kn_308, kn_310, kn_312, kn_314, kf_200, kf_203, kf_216, kf_221, kf_224, kf_233, kf_268, kf_269, kf_272, kf_273, kf_276, kf_283, kf_284, kf_287, ki_200, ki_203, ki_216, ki_221, ki_224, ki_233, ki_268, ki_269, ki_272, ki_273, ki_276, ki_283, ki_284, ki_287, kv_200_0, kv_200_1, kv_200_2, kv_200_3, kv_200_4, kv_200_5, kv_200_6, kv_200_7, kv_200_8, kv_200_9, kv_200_10, kv_200_11, kv_203_0, kv_203_1, kv_203_2, kv_203_3, kv_203_4, kv_203_5, kv_216_0, kv_216_1, kv_216_2, kv_221_0, kv_221_1, kv_221_3, kv_224_0, kv_224_1, kv_224_2, kv_224_3, kv_233_0, kv_233_1, kv_233_2, kv_233_3, kv_233_4, kv_233_5, kv_233_6, kv_233_7, kv_233_8, kv_233_9, kv_233_10, kv_233_11, kv_233_12, kv_233_13, kv_268_0, kv_268_1, kv_268_2, kv_272_0, kv_272_1, kv_272_2, kv_276_0, kv_276_1, kv_276_2, kv_276_3, kv_283_0, kv_283_1, kv_283_2, kv_287_0, kv_287_1, kv_287_2, kv_287_3, kv_287_4, kv_287_5, kv_287_6, kv_287_7, kv_287_8, kv_287_9, kv_287_10, kv_287_11, kv_287_12, kv_287_13, kS_A, kS_S, kS_C, kS_SI, mI_A, mI_S, mI_C, nI_SI, mV_A, mV_S, mV_C, nV_SI, mK_A, mK_S, mK_C, nK_SI, mN_A, mN_S, mN_C, nN_SI, mL_A, mL_S, mL_C, nL_SI, tx_A, tx_S, tx_C, tx_SI, tx_v, tx_w, mIs_A, mIs_S, mIs_C, nIs_SI, kS_row, kS_r4, r_size, r_get, r_set, r_add, r_cut, rL_A, rL_S, rL_C, rL_An, rL_Sn, rL_Cn, rL_SI, rN_A, rN_S, rN_C, rN_SI]
  rfl
