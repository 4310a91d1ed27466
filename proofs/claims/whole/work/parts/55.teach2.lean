def swp (h : mH) (t u : Nat) : mH := mSV (mSV h 224 6 (.ref u)) 200 12 (.ref t)
theorem kS_swp {h : mH} {t u : Nat} (hk : kS h) (ht : (t = 233 ∧ u = 287) ∨ (t = 287 ∧ u = 233)) : kS (swp h t u) := by
  refine ⟨hk.1, hk.2.1, ?_, hk.2.2.2.1, ?_⟩
  · intro q hq
    have h1 : ∀ q, q ∈ cRt → ¬ (q.1 = 224 ∧ q.2.1 = 6) ∧ ¬ (q.1 = 200 ∧ q.2.1 = 12) := by decide +kernel
    have h2 := h1 q hq
    unfold swp
    rw [mV_SV, if_neg h2.2, mV_SV, if_neg h2.1]
    exact hk.2.2.1 q hq
  · unfold swp
    rcases ht with ⟨rfl, rfl⟩ | ⟨rfl, rfl⟩
    · exact Or.inr ⟨rfl, rfl⟩
    · exact Or.inl ⟨rfl, rfl⟩
theorem rOK_SV {h : mH} {a b k : Nat} {x : Value} (hr : rOK h a) (hk : ¬ k = 0) : rOK (mSV h b k x) a := by
  obtain ⟨h1, h2, h3⟩ := hr
  refine ⟨h1, ?_, h3⟩
  rw [mV_SV, if_neg (fun z => hk z.2.symm)]
  exact h2
theorem p_furnish {d t u : Nat} {h : mH} (hk : kS h) (ht : mV h 224 6 = .ref t) : mCall (d + 2) 89 [.ref 224, .ref u] h = some (.inl (some (.ref t)), mSI (rC (rC (rC (mSV h 224 6 (.ref u)) 225 0) 227 0) 229 0) 224 5 0) := by
  have n6 : ¬ (6 : Nat) = 0 := by decide
  have r1 : rOK (mSV h 224 6 (.ref u)) 225 := rOK_SV (kS_row hk kw_225) n6
  have r2 : rOK (rC (mSV h 224 6 (.ref u)) 225 0) 227 := rOK_SV (h := rC h 225 0) (kS_row (kS_C hk kw_225) kw_227) n6
  have r3 : rOK (rC (rC (mSV h 224 6 (.ref u)) 225 0) 227 0) 229 := rOK_SV (h := rC (rC h 225 0) 227 0) (kS_row (kS_C (kS_C hk kw_225) kw_227) kw_229) n6
  have i3 : mIs (mSV h 224 6 (.ref u)) 224 3 = true := (ki_224 hk : mIs h 224 3 = true)
  have i4 : ∀ a, isRow a = true → mIs (mSV h 224 6 (.ref u)) a 4 = true := fun a ha => (kS_r4 hk ha : mIs h a 4 = true)
  have e0 : mV (mSV h 224 6 (.ref u)) 224 0 = .ref 225 := (mV_SV ..).trans ((if_neg (by decide)).trans (kv_224_0 hk))
  have e1 : mV (mSV h 224 6 (.ref u)) 224 1 = .ref 227 := (mV_SV ..).trans ((if_neg (by decide)).trans (kv_224_1 hk))
  have e2 : mV (mSV h 224 6 (.ref u)) 224 2 = .ref 229 := (mV_SV ..).trans ((if_neg (by decide)).trans (kv_224_2 hk))
  simp (maxDischargeDepth := 60) only [ht, e0, e1, e2, i3, i4, r_cut r1, r_cut r2, r_cut r3, hk, x_89_0, x_89_1, x_89_4, x_89_5, x_89_6, x_89_7, x_89_10, x_89_11, x_89_14, x_89_15, x_89_18, x_89_19, x_89_22, x_89_23, x_89_26, x_89_27, x_89_30, x_89_31, x_89_34, x_89_35, x_89_36, x_89_39, x_89_40, c_89, mIs_C, mV_C, ki_224, kw_225, kw_227, kw_229, Option.bind_some, mAft_n, mAft_v, mAft_x, mS_n, mS_i, mS_r, mS_l, mS_d, ne_eq, not_false_eq_true, not_true_eq_false, true_or, or_true, and_true, true_and, if_true, if_false, ite_true, ite_false, reduceIte, Nat.reduceAdd, Nat.reduceLeDiff, Nat.reduceEqDiff, false_and, and_false, or_false, false_or, eq_self, reduceCtorEq]
theorem swp_C {h : mH} {t u : Nat} : mSV (mSI (rC (rC (rC (mSV h 224 6 (.ref u)) 225 0) 227 0) 229 0) 224 5 0) 200 12 (.ref t) = mSI (rC (rC (rC (swp h t u) 225 0) 227 0) 229 0) 224 5 0 := rfl
/-- what teaching leaves: the old text's number u is the draft's, M what naming told -/
def tR (h : mH) (u : Nat) (os : List Int32) (M : NM) (vs : List (Int32 × Int32 × Int32)) (P : List Int32) : Prop := nmR h u M ∧ rL h (u + 25) = os ∧ mV h 224 6 = .ref u ∧ pC h [] ∧ mI h 224 5 = 0 ∧ rL h 201 = [] ∧ mI h 200 13 = -1 ∧ rL h 262 = vs.map (·.1) ∧ rL h 264 = vs.map (·.2.1) ∧ rL h 266 = vs.map (·.2.2) ∧ rL h 285 = P ∧ mI h 268 3 = 0 ∧ rL h 270 = [] ∧ mI h 269 6 = 0
def Wt : List Nat := (List.range 116).map (· + 200)
theorem Wt_mem {a : Nat} (h0 : 200 ≤ a) (h1 : a < 316) : a ∈ Wt := List.mem_map.mpr ⟨a - 200, List.mem_range.mpr (by omega), by omega⟩
theorem Fr_Wt {W : List Nat} {h H : mH} (f : Fr W h H) (hW : ∀ a, a ∈ W → 200 ≤ a ∧ a < 316) : Fr Wt h H := Fr_mono f (fun a ha => Wt_mem (hW a ha).1 (hW a ha).2)
/-- what the parser writes -/
def Wq (u : Nat) : List Nat := [204, 205, 206, 207, 208, 209, 210, 211, 212, 213, 214, 215, 216, 217, 218, 219, 220, 221, 222, 223, u + 1, u + 2, u + 3, u + 4, u + 5, u + 6, u + 7, u + 8, u + 9, u + 10, u + 11, u + 12, u + 13, u + 14, u + 15, u + 16, u + 17, u + 18, u + 19, u + 20, u + 21, u + 22, u + 23, u + 24, u + 25, u + 26, u + 27, u + 28]
theorem Wg_q {u : Nat} : ∀ a, a ∈ Wg u → a ∈ Wq u := by
  intro a h
  unfold Wg at h
  unfold Wq
  simp only [List.mem_cons, List.not_mem_nil, or_false] at h ⊢
  omega
theorem Wc_q {u : Nat} : ∀ a, a ∈ Wc u → a ∈ Wq u := by
  intro a h
  unfold Wc Wn at h
  unfold Wq
  simp only [List.mem_append, List.mem_cons, List.not_mem_nil, or_false] at h ⊢
  omega
def Wx (u : Nat) : List Nat := [u + 1, u + 2, u + 3, u + 4, u + 5, u + 6, u + 7, u + 8, u + 9, u + 10, u + 11, u + 12, u + 13, u + 14, u + 15, u + 16, u + 17, u + 18, u + 19, u + 20, u + 21, u + 22, u + 23, u + 24, u + 25, u + 26, u + 27, u + 28]
theorem Wx_q {u : Nat} : ∀ a, a ∈ Wx u → a ∈ Wq u := by
  intro a h
  unfold Wx at h
  unfold Wq
  simp only [List.mem_cons, List.not_mem_nil, or_false] at h ⊢
  omega
theorem t_clear2 {d u : Nat} {h : mH} (hk : kS h) (hu : u = 233 ∨ u = 287) : ∃ H, mCall (d + 2) 55 [.ref u] h = some (.inl none, H) ∧ kS H ∧ nmR H u ([], [], [], [], [], [], [], [], [], [], [], [], []) ∧ rL H (u + 25) = [] ∧ Fr (Wx u) h H := by
  refine ⟨_, t_clear hk hu, ?_⟩
  rcases hu with rfl | rfl <;> (
    simp only [Nat.reduceAdd]
    refine ⟨?k, ⟨?k, fun _ z => (by cases z), fun _ z => (by cases z), fun _ z => (by cases z), ?_⟩, ?_, ?_⟩
    case k =>
      repeat first
        | exact hk
        | refine kS_C ?_ (by decide +kernel)
    · simp only [Nat.reduceAdd]
      simp (maxDischargeDepth := 60) only [hk, lc_0, List.flatten_nil, Option.bind_some, mAft_n, mAft_v, mAft_x, mS_n, mS_i, mS_r, mS_l, mS_d, ne_eq, not_false_eq_true, not_true_eq_false, true_or, or_true, and_true, true_and, if_true, if_false, ite_true, ite_false, reduceIte, Nat.reduceAdd, Nat.reduceLeDiff, Nat.reduceEqDiff, false_and, and_false, or_false, false_or, eq_self, reduceCtorEq, kw_201, kw_204, kw_206, kw_208, kw_210, kw_212, kw_214, kw_217, kw_219, kw_222, kw_225, kw_227, kw_229, kw_231, kw_234, kw_236, kw_238, kw_240, kw_242, kw_244, kw_246, kw_248, kw_250, kw_252, kw_254, kw_256, kw_258, kw_260, kw_262, kw_264, kw_266, kw_270, kw_274, kw_277, kw_279, kw_281, kw_285, kw_288, kw_290, kw_292, kw_294, kw_296, kw_298, kw_300, kw_302, kw_304, kw_306, kw_308, kw_310, kw_312, kw_314, kn_201, kn_204, kn_206, kn_208, kn_210, kn_212, kn_214, kn_217, kn_219, kn_222, kn_225, kn_227, kn_229, kn_231, kn_234, kn_236, kn_238, kn_240, kn_242, kn_244, kn_246, kn_248, kn_250, kn_252, kn_254, kn_256, kn_258, kn_260, kn_262, kn_264, kn_266, kn_270, kn_274, kn_277, kn_279, kn_281, kn_285, kn_288, kn_290, kn_292, kn_294, kn_296, kn_298, kn_300, kn_302, kn_304, kn_306, kn_308, kn_310, kn_312, kn_314, kf_200, kf_203, kf_216, kf_221, kf_224, kf_233, kf_268, kf_269, kf_272, kf_273, kf_276, kf_283, kf_284, kf_287, ki_200, ki_203, ki_216, ki_221, ki_224, ki_233, ki_268, ki_269, ki_272, ki_273, ki_276, ki_283, ki_284, ki_287, kv_200_0, kv_200_1, kv_200_2, kv_200_3, kv_200_4, kv_200_5, kv_200_6, kv_200_7, kv_200_8, kv_200_9, kv_200_10, kv_200_11, kv_203_0, kv_203_1, kv_203_2, kv_203_3, kv_203_4, kv_203_5, kv_216_0, kv_216_1, kv_216_2, kv_221_0, kv_221_1, kv_221_3, kv_224_0, kv_224_1, kv_224_2, kv_224_3, kv_233_0, kv_233_1, kv_233_2, kv_233_3, kv_233_4, kv_233_5, kv_233_6, kv_233_7, kv_233_8, kv_233_9, kv_233_10, kv_233_11, kv_233_12, kv_233_13, kv_268_0, kv_268_1, kv_268_2, kv_272_0, kv_272_1, kv_272_2, kv_276_0, kv_276_1, kv_276_2, kv_276_3, kv_283_0, kv_283_1, kv_283_2, kv_287_0, kv_287_1, kv_287_2, kv_287_3, kv_287_4, kv_287_5, kv_287_6, kv_287_7, kv_287_8, kv_287_9, kv_287_10, kv_287_11, kv_287_12, kv_287_13, kS_A, kS_S, kS_C, kS_SI, mI_A, mI_S, mI_C, nI_SI, mV_A, mV_S, mV_C, nV_SI, mK_A, mK_S, mK_C, nK_SI, mN_A, mN_S, mN_C, nN_SI, mL_A, mL_S, mL_C, nL_SI, tx_A, tx_S, tx_C, tx_SI, tx_v, tx_w, mIs_A, mIs_S, mIs_C, nIs_SI, kS_row, kS_r4, r_size, r_get, r_set, r_add, r_cut, rL_A, rL_S, rL_C, rL_An, rL_Sn, rL_Cn, rL_SI, rN_A, rN_S, rN_C, rN_SI]
    · simp (maxDischargeDepth := 60) only [hk, lc_0, Option.bind_some, mAft_n, mAft_v, mAft_x, mS_n, mS_i, mS_r, mS_l, mS_d, ne_eq, not_false_eq_true, not_true_eq_false, true_or, or_true, and_true, true_and, if_true, if_false, ite_true, ite_false, reduceIte, Nat.reduceAdd, Nat.reduceLeDiff, Nat.reduceEqDiff, false_and, and_false, or_false, false_or, eq_self, reduceCtorEq, kw_201, kw_204, kw_206, kw_208, kw_210, kw_212, kw_214, kw_217, kw_219, kw_222, kw_225, kw_227, kw_229, kw_231, kw_234, kw_236, kw_238, kw_240, kw_242, kw_244, kw_246, kw_248, kw_250, kw_252, kw_254, kw_256, kw_258, kw_260, kw_262, kw_264, kw_266, kw_270, kw_274, kw_277, kw_279, kw_281, kw_285, kw_288, kw_290, kw_292, kw_294, kw_296, kw_298, kw_300, kw_302, kw_304, kw_306, kw_308, kw_310, kw_312, kw_314, kn_201, kn_204, kn_206, kn_208, kn_210, kn_212, kn_214, kn_217, kn_219, kn_222, kn_225, kn_227, kn_229, kn_231, kn_234, kn_236, kn_238, kn_240, kn_242, kn_244, kn_246, kn_248, kn_250, kn_252, kn_254, kn_256, kn_258, kn_260, kn_262, kn_264, kn_266, kn_270, kn_274, kn_277, kn_279, kn_281, kn_285, kn_288, kn_290, kn_292, kn_294, kn_296, kn_298, kn_300, kn_302, kn_304, kn_306, kn_308, kn_310, kn_312, kn_314, kf_200, kf_203, kf_216, kf_221, kf_224, kf_233, kf_268, kf_269, kf_272, kf_273, kf_276, kf_283, kf_284, kf_287, ki_200, ki_203, ki_216, ki_221, ki_224, ki_233, ki_268, ki_269, ki_272, ki_273, ki_276, ki_283, ki_284, ki_287, kv_200_0, kv_200_1, kv_200_2, kv_200_3, kv_200_4, kv_200_5, kv_200_6, kv_200_7, kv_200_8, kv_200_9, kv_200_10, kv_200_11, kv_203_0, kv_203_1, kv_203_2, kv_203_3, kv_203_4, kv_203_5, kv_216_0, kv_216_1, kv_216_2, kv_221_0, kv_221_1, kv_221_3, kv_224_0, kv_224_1, kv_224_2, kv_224_3, kv_233_0, kv_233_1, kv_233_2, kv_233_3, kv_233_4, kv_233_5, kv_233_6, kv_233_7, kv_233_8, kv_233_9, kv_233_10, kv_233_11, kv_233_12, kv_233_13, kv_268_0, kv_268_1, kv_268_2, kv_272_0, kv_272_1, kv_272_2, kv_276_0, kv_276_1, kv_276_2, kv_276_3, kv_283_0, kv_283_1, kv_283_2, kv_287_0, kv_287_1, kv_287_2, kv_287_3, kv_287_4, kv_287_5, kv_287_6, kv_287_7, kv_287_8, kv_287_9, kv_287_10, kv_287_11, kv_287_12, kv_287_13, kS_A, kS_S, kS_C, kS_SI, mI_A, mI_S, mI_C, nI_SI, mV_A, mV_S, mV_C, nV_SI, mK_A, mK_S, mK_C, nK_SI, mN_A, mN_S, mN_C, nN_SI, mL_A, mL_S, mL_C, nL_SI, tx_A, tx_S, tx_C, tx_SI, tx_v, tx_w, mIs_A, mIs_S, mIs_C, nIs_SI, kS_row, kS_r4, r_size, r_get, r_set, r_add, r_cut, rL_A, rL_S, rL_C, rL_An, rL_Sn, rL_Cn, rL_SI, rN_A, rN_S, rN_C, rN_SI]
    · repeat first
        | exact Fr_refl
        | refine Fr_C ?_ (by decide) (by decide))
