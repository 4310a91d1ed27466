/-! COMPOSING: CHOOSING -/
theorem cChL_x {K : VK} {E : EV} {S : CS} {wN : Nat → Nat} : ∀ (n i : Nat) (c m : Int32), i + n = E.2.2.1.length → (c = -1 ∨ ∃ q, q < E.2.2.1.length ∧ c = Int32.ofNat q ∧ (cTake K E (Int32.ofNat q) S).1 = true) → ¬ m < -1 → (cChL K E S n i c m = -1 ∨ ∃ q, q < E.2.2.1.length ∧ cChL K E S n i c m = Int32.ofNat q ∧ (cTake K E (Int32.ofNat q) S).1 = true)
  | 0, _, c, _, _, h, _ => h
  | n + 1, i, c, m, e, h, hm => by
    rw [cChL]
    by_cases c1 : m < cRate K E S (Int32.ofNat i)
    · rw [if_pos c1]
      refine cChL_x (wN := wN) n (i + 1) _ _ (by omega) (Or.inr ⟨i, by omega, rfl, ?_⟩) (by rw [i_lt] at *; omega)
      unfold cRate at c1
      split at c1
      · next c2 => exact c2.1
      · exact absurd c1 hm
    · rw [if_neg c1]
      exact cChL_x (wN := wN) n (i + 1) c m (by omega) h hm
theorem ch_l {d t who s lim pc : Nat} {sec time room worth : Int32} {E : EV} {vs : List (Int32 × Int32 × Int32)} {wN : Nat → Nat} {S : CS} (hwh : who < vs.length) (hp : psB E.2.2.1 wN) (ht : t < 17) (hS : S.1 = Int32.ofNat s) (hs2 : s ≤ 200000) (hlim : sec + time = Int32.ofNat lim) (hlim2 : lim ≤ 200000) (hpc : lg (vs.map (·.1)) (Int32.ofNat who) = Int32.ofNat pc) (hpc1 : 1 ≤ pc) (hpc9 : pc ≤ 1000) (hr : rOK12 S.2.1) (hti : ¬ lg (vs.map (·.2.1)) (Int32.ofNat who) < S.2.2.1) :
    ∀ (n p : Nat) (c mo : Int32) (h : mH) (l10 : Option Value), p + n = E.2.2.1.length → ¬ mo < -1 → wCx h E.1 E.2.1 E.2.2.1 vs → rowR h t S →
    ∃ H mo' l10', mExec (mCall (d + 3)) 247 54 [some (.ref 316), some (.int (Int32.ofNat who)), some (.int room), some (.int sec), some (.int time), some (.int worth), some (.int (Int32.ofNat t)), some (.int c), some (.int mo), some (.int (Int32.ofNat p)), l10] [] h = mExec (mCall (d + 3)) 247 153 [some (.ref 316), some (.int (Int32.ofNat who)), some (.int room), some (.int sec), some (.int time), some (.int worth), some (.int (Int32.ofNat t)), some (.int (cChL (vKK vs (Int32.ofNat who) (sec + time)) E S n p c mo)), some (.int mo'), some (.int (Int32.ofNat E.2.2.1.length)), l10'] [] H ∧ Fr [322, 359] h H ∧ ∀ j, j < 4 * (t + 1) → mI H 359 j = mI h 359 j := by
  intro n
  induction n with
  | zero =>
    intro p c mo h l10 e hmo w m
    have hk := w.1
    have hpt := pt_P hk
    have pa := w.2.2.2.2.1.1
    have l16 := hp.1
    have c1 := eq_true (show Int32.ofNat E.2.2.1.length ≤ Int32.ofNat p by rw [i_ofle (by omega) (by omega)]; omega)
    have ep : E.2.2.1.length = p := by omega
    refine ⟨h, mo, l10, ?_, ⟨rfl, fun _ _ _ => rfl⟩, fun _ _ => rfl⟩
    rw [x_247_54, cChL]
    simp (maxDischargeDepth := 60) only [hk, x_247_0, x_247_1, x_247_2, x_247_3, x_247_4, x_247_5, x_247_7, x_247_10, x_247_13, x_247_14, x_247_17, x_247_20, x_247_21, x_247_22, x_247_23, x_247_24, x_247_27, x_247_28, x_247_30, x_247_33, x_247_34, x_247_35, x_247_36, x_247_39, x_247_40, x_247_42, x_247_43, x_247_45, x_247_46, x_247_48, x_247_49, x_247_51, x_247_52, x_247_56, x_247_57, x_247_60, x_247_63, x_247_66, x_247_67, x_247_68, x_247_70, x_247_72, x_247_73, x_247_75, x_247_76, x_247_79, x_247_82, x_247_85, x_247_86, x_247_89, x_247_92, x_247_93, x_247_95, x_247_96, x_247_97, x_247_98, x_247_99, x_247_102, x_247_103, x_247_104, x_247_107, x_247_108, x_247_110, x_247_111, x_247_112, x_247_113, x_247_114, x_247_115, x_247_118, x_247_119, x_247_121, x_247_122, x_247_123, x_247_124, x_247_125, x_247_126, x_247_127, x_247_129, x_247_131, x_247_133, x_247_136, x_247_139, x_247_141, x_247_143, x_247_145, x_247_147, x_247_150, x_247_155, x_247_156, x_247_159, x_247_162, x_247_163, x_247_164, x_247_166, x_247_168, x_247_169, x_247_171, x_247_172, x_247_175, x_247_176, x_247_179, x_247_181, x_247_182, x_247_185, x_247_188, x_247_189, x_247_191, x_247_192, x_247_193, x_247_194, x_247_195, x_247_196, x_247_198, x_247_199, x_247_201, x_247_204, x_247_205, x_247_206, x_247_209, x_247_212, x_247_213, x_247_216, x_247_219, x_247_220, x_247_222, x_247_223, x_247_224, x_247_225, x_247_228, x_247_229, x_247_231, x_247_234, x_247_235, x_247_236, x_247_239, x_247_242, x_247_244, x_247_245, x_247_248, x_247_249, x_247_251, x_247_254, x_247_257, x_247_258, x_247_260, x_247_263, x_247_265, hpt, pa, c1, Option.bind_some, mAft_n, mAft_v, mAft_x, mS_n, mS_i, mS_r, mS_l, mS_d, ne_eq, not_false_eq_true, not_true_eq_false, true_or, or_true, and_true, true_and, if_true, if_false, ite_true, ite_false, reduceIte, Nat.reduceAdd, Nat.reduceLeDiff, Nat.reduceEqDiff, false_and, and_false, or_false, false_or, eq_self, reduceCtorEq, mi_316, mi_317, ml_317, mi_318, ml_318, mi_319, ml_319, mi_320, ml_320, mi_321, ml_321, mi_322, ml_322, mi_359, ml_359, mv_316_1, mv_316_4, mv_316_7, mv_316_8, mv_316_9, mv_316_10, mv_316_13, mv_316_14, mv_316_15, pi_0, pi_1, pl_1, pv_1, pi_2, pl_2, pv_2, pi_3, pl_3, pv_3, pi_4, pl_4, pv_4, pi_5, pl_5, pv_5, pi_6, pl_6, pv_10, pi_7, pl_7, pv_11, pi_8, pl_8, pv_12, pi_9, pl_9, pv_13, pi_10, pl_10, pv_14, pi_11, pl_11, pv_15, pv_20, wi_0, wi_1, wl_1, wv_14, wi_2, wl_2, wv_15, wi_3, wl_3, wv_16, wi_4, wl_4, wv_17, wi_5, wl_5, wv_18, wv_21, pt_P, pt_v, pt_w, pt_SI, pt_SL, kM_SI, kM_SL, lI_SL, lV_SL, lK_SL, lN_SL, lL_SL, lIs_SL, nI_SI, nV_SI, nK_SI, nN_SI, nL_SI, nIs_SI, pp_c, pp_l, pp_r, pp_k, pp_k0, pp_j, pp_j0, isl]
    rw [ep]
  | succ n ih =>
    intro p c mo h l10 e hmo w m
    have hk := w.1
    have hpt := pt_P hk
    have pa := w.2.2.2.2.1.1
    have l16 := hp.1
    have c1 : ¬ Int32.ofNat E.2.2.1.length ≤ Int32.ofNat p := by rw [i_ofle (by omega) (by omega)]; omega
    obtain ⟨r, hr12, hre⟩ := id hr
    obtain ⟨⟨q, hq12, hqe⟩, hwp, hw99, x, hx1, hx2, hxe⟩ := hp.2 p (by omega)
    obtain ⟨H1, t1, t2, t3, t4⟩ := m_take (d := d) (lim := sec + time) w hwh ht (show p < E.2.2.1.length by omega) hre hr12 hqe hq12 hti m
    have w1 := wCx_Fr t2 (by intro a ha; simp only [List.mem_cons, List.not_mem_nil, or_false] at ha; omega) w
    have hk1 := w1.1
    have m1 := rowR_keep m t3
    rw [cChL]
    cases hT : (cTake (vKK vs (Int32.ofNat who) (sec + time)) E (Int32.ofNat p) S).1
    · rw [hT] at t1
      have er : cRate (vKK vs (Int32.ofNat who) (sec + time)) E S (Int32.ofNat p) = -1 := by
        unfold cRate
        rw [hT, if_neg (fun z => by cases z.1)]
      rw [er, if_neg hmo]
      obtain ⟨H2, mo', l10', u1, u2, u3⟩ := ih (p + 1) c mo H1 l10 (by omega) hmo w1 m1
      refine ⟨H2, mo', l10', ?_, Fr_trans t2 u2, fun j hj => (u3 j hj).trans (t3 j hj)⟩
      rw [← u1, x_247_54]
      simp (maxDischargeDepth := 60) only [hk, x_247_0, x_247_1, x_247_2, x_247_3, x_247_4, x_247_5, x_247_7, x_247_10, x_247_13, x_247_14, x_247_17, x_247_20, x_247_21, x_247_22, x_247_23, x_247_24, x_247_27, x_247_28, x_247_30, x_247_33, x_247_34, x_247_35, x_247_36, x_247_39, x_247_40, x_247_42, x_247_43, x_247_45, x_247_46, x_247_48, x_247_49, x_247_51, x_247_52, x_247_56, x_247_57, x_247_60, x_247_63, x_247_66, x_247_67, x_247_68, x_247_70, x_247_72, x_247_73, x_247_75, x_247_76, x_247_79, x_247_82, x_247_85, x_247_86, x_247_89, x_247_92, x_247_93, x_247_95, x_247_96, x_247_97, x_247_98, x_247_99, x_247_102, x_247_103, x_247_104, x_247_107, x_247_108, x_247_110, x_247_111, x_247_112, x_247_113, x_247_114, x_247_115, x_247_118, x_247_119, x_247_121, x_247_122, x_247_123, x_247_124, x_247_125, x_247_126, x_247_127, x_247_129, x_247_131, x_247_133, x_247_136, x_247_139, x_247_141, x_247_143, x_247_145, x_247_147, x_247_150, x_247_155, x_247_156, x_247_159, x_247_162, x_247_163, x_247_164, x_247_166, x_247_168, x_247_169, x_247_171, x_247_172, x_247_175, x_247_176, x_247_179, x_247_181, x_247_182, x_247_185, x_247_188, x_247_189, x_247_191, x_247_192, x_247_193, x_247_194, x_247_195, x_247_196, x_247_198, x_247_199, x_247_201, x_247_204, x_247_205, x_247_206, x_247_209, x_247_212, x_247_213, x_247_216, x_247_219, x_247_220, x_247_222, x_247_223, x_247_224, x_247_225, x_247_228, x_247_229, x_247_231, x_247_234, x_247_235, x_247_236, x_247_239, x_247_242, x_247_244, x_247_245, x_247_248, x_247_249, x_247_251, x_247_254, x_247_257, x_247_258, x_247_260, x_247_263, x_247_265, hpt, pa, c1, t1, bz_0, hk1, i_succ, Option.bind_some, mAft_n, mAft_v, mAft_x, mS_n, mS_i, mS_r, mS_l, mS_d, ne_eq, not_false_eq_true, not_true_eq_false, true_or, or_true, and_true, true_and, if_true, if_false, ite_true, ite_false, reduceIte, Nat.reduceAdd, Nat.reduceLeDiff, Nat.reduceEqDiff, false_and, and_false, or_false, false_or, eq_self, reduceCtorEq, mi_316, mi_317, ml_317, mi_318, ml_318, mi_319, ml_319, mi_320, ml_320, mi_321, ml_321, mi_322, ml_322, mi_359, ml_359, mv_316_1, mv_316_4, mv_316_7, mv_316_8, mv_316_9, mv_316_10, mv_316_13, mv_316_14, mv_316_15, pi_0, pi_1, pl_1, pv_1, pi_2, pl_2, pv_2, pi_3, pl_3, pv_3, pi_4, pl_4, pv_4, pi_5, pl_5, pv_5, pi_6, pl_6, pv_10, pi_7, pl_7, pv_11, pi_8, pl_8, pv_12, pi_9, pl_9, pv_13, pi_10, pl_10, pv_14, pi_11, pl_11, pv_15, pv_20, wi_0, wi_1, wl_1, wv_14, wi_2, wl_2, wv_15, wi_3, wl_3, wv_16, wi_4, wl_4, wv_17, wi_5, wl_5, wv_18, wv_21, pt_P, pt_v, pt_w, pt_SI, pt_SL, kM_SI, kM_SL, lI_SL, lV_SL, lK_SL, lN_SL, lL_SL, lIs_SL, nI_SI, nV_SI, nK_SI, nN_SI, nL_SI, nIs_SI, pp_c, pp_l, pp_r, pp_k, pp_k0, pp_j, pp_j0, isl]
    · rw [hT] at t1
      obtain ⟨s', hs', hss, hsl⟩ := cTake_sec hT hS hs2 hpc hpc1 hpc9 hxe hx1 hx2 hlim hlim2
      have r1 := t4 hT
      generalize hSS : (cTake (vKK vs (Int32.ofNat who) (sec + time)) E (Int32.ofNat p) S).2 = S1 at *
      have er : cRate (vKK vs (Int32.ofNat who) (sec + time)) E S (Int32.ofNat p) = lg (E.2.2.1.map (·.2.2.1)) (Int32.ofNat p) * 1000 / (S1.1 - S.1) := by
        unfold cRate
        rw [hT, hSS, if_pos ⟨rfl, by rw [hS, hs', i_oflt (by omega) (by omega)]; exact hss⟩]
      rw [er]
      obtain ⟨p0, p1, p2, p3, p4, q0, q1, q2, q3, q4, r0, r1', r2, r3, r4⟩ := ix5 p (by omega)
      obtain ⟨y0, y1, y2, y3, y4, y5, y6, y7, z0', z1', z2', z3', z4', z5', z6', z7', u0, u1, u2, u3, u4, u5, u6, u7⟩ := ixr t ht
      have ept := pt_Fr t2
      have x2 : mI H1 (pt h + 10) (5 * p + 2) = lg (E.2.2.1.map (·.2.2.1)) (Int32.ofNat p) := by
        have y := (w1.2.2.2.2.1.2.2 p (by omega)).2.2.1
        rw [ept] at y
        exact y
      have hd : ¬ S1.1 - S.1 = 0 := by
        rw [hS, hs', i_subof (by omega), show (0 : Int32) = Int32.ofNat 0 from rfl, i_ofeq (by omega) (by omega)]
        omega
      have g1 : mI H1 359 (4 * t + 1) = S.1 := by
        obtain ⟨sec0, room0, ti0, he0, wo0⟩ := S
        exact m1.2.1
      have g5 : mI H1 359 (4 * t + 5) = S1.1 := by
        obtain ⟨sec0, room0, ti0, he0, wo0⟩ := S1
        have := r1.2.1
        rw [show 4 * (t + 1) + 1 = 4 * t + 5 by omega] at this
        exact this
      generalize ho : lg (E.2.2.1.map (·.2.2.1)) (Int32.ofNat p) * 1000 / (S1.1 - S.1) = own at *
      by_cases c2 : mo < own
      · rw [if_pos c2]
        have c2' := eq_true c2
        obtain ⟨H2, mo', l10', b1, b2, b3⟩ := ih (p + 1) (Int32.ofNat p) own H1 (some (.int own)) (by omega) (by rw [i_lt] at *; omega) w1 m1
        refine ⟨H2, mo', l10', ?_, Fr_trans t2 b2, fun j hj => (b3 j hj).trans (t3 j hj)⟩
        rw [← b1, x_247_54]
        simp (maxDischargeDepth := 60) only [hk, x_247_0, x_247_1, x_247_2, x_247_3, x_247_4, x_247_5, x_247_7, x_247_10, x_247_13, x_247_14, x_247_17, x_247_20, x_247_21, x_247_22, x_247_23, x_247_24, x_247_27, x_247_28, x_247_30, x_247_33, x_247_34, x_247_35, x_247_36, x_247_39, x_247_40, x_247_42, x_247_43, x_247_45, x_247_46, x_247_48, x_247_49, x_247_51, x_247_52, x_247_56, x_247_57, x_247_60, x_247_63, x_247_66, x_247_67, x_247_68, x_247_70, x_247_72, x_247_73, x_247_75, x_247_76, x_247_79, x_247_82, x_247_85, x_247_86, x_247_89, x_247_92, x_247_93, x_247_95, x_247_96, x_247_97, x_247_98, x_247_99, x_247_102, x_247_103, x_247_104, x_247_107, x_247_108, x_247_110, x_247_111, x_247_112, x_247_113, x_247_114, x_247_115, x_247_118, x_247_119, x_247_121, x_247_122, x_247_123, x_247_124, x_247_125, x_247_126, x_247_127, x_247_129, x_247_131, x_247_133, x_247_136, x_247_139, x_247_141, x_247_143, x_247_145, x_247_147, x_247_150, x_247_155, x_247_156, x_247_159, x_247_162, x_247_163, x_247_164, x_247_166, x_247_168, x_247_169, x_247_171, x_247_172, x_247_175, x_247_176, x_247_179, x_247_181, x_247_182, x_247_185, x_247_188, x_247_189, x_247_191, x_247_192, x_247_193, x_247_194, x_247_195, x_247_196, x_247_198, x_247_199, x_247_201, x_247_204, x_247_205, x_247_206, x_247_209, x_247_212, x_247_213, x_247_216, x_247_219, x_247_220, x_247_222, x_247_223, x_247_224, x_247_225, x_247_228, x_247_229, x_247_231, x_247_234, x_247_235, x_247_236, x_247_239, x_247_242, x_247_244, x_247_245, x_247_248, x_247_249, x_247_251, x_247_254, x_247_257, x_247_258, x_247_260, x_247_263, x_247_265, hpt, pa, c1, t1, bz_0, Bool.true_eq_false, hk1, ept, p0, p1, p2, p3, p4, q0, q1, q2, q3, q4, r0, r1', r2, r3, r4, x2, y0, y1, y2, y3, y4, y5, y6, y7, z0', z1', z2', z3', z4', z5', z6', z7', u0, u1, u2, u3, u4, u5, u6, u7, g1, g5, hd, ho, c2', i_succ, Option.bind_some, mAft_n, mAft_v, mAft_x, mS_n, mS_i, mS_r, mS_l, mS_d, ne_eq, not_false_eq_true, not_true_eq_false, true_or, or_true, and_true, true_and, if_true, if_false, ite_true, ite_false, reduceIte, Nat.reduceAdd, Nat.reduceLeDiff, Nat.reduceEqDiff, false_and, and_false, or_false, false_or, eq_self, reduceCtorEq, mi_316, mi_317, ml_317, mi_318, ml_318, mi_319, ml_319, mi_320, ml_320, mi_321, ml_321, mi_322, ml_322, mi_359, ml_359, mv_316_1, mv_316_4, mv_316_7, mv_316_8, mv_316_9, mv_316_10, mv_316_13, mv_316_14, mv_316_15, pi_0, pi_1, pl_1, pv_1, pi_2, pl_2, pv_2, pi_3, pl_3, pv_3, pi_4, pl_4, pv_4, pi_5, pl_5, pv_5, pi_6, pl_6, pv_10, pi_7, pl_7, pv_11, pi_8, pl_8, pv_12, pi_9, pl_9, pv_13, pi_10, pl_10, pv_14, pi_11, pl_11, pv_15, pv_20, wi_0, wi_1, wl_1, wv_14, wi_2, wl_2, wv_15, wi_3, wl_3, wv_16, wi_4, wl_4, wv_17, wi_5, wl_5, wv_18, wv_21, pt_P, pt_v, pt_w, pt_SI, pt_SL, kM_SI, kM_SL, lI_SL, lV_SL, lK_SL, lN_SL, lL_SL, lIs_SL, nI_SI, nV_SI, nK_SI, nN_SI, nL_SI, nIs_SI, pp_c, pp_l, pp_r, pp_k, pp_k0, pp_j, pp_j0, isl]
      · rw [if_neg c2]
        obtain ⟨H2, mo', l10', b1, b2, b3⟩ := ih (p + 1) c mo H1 (some (.int own)) (by omega) hmo w1 m1
        refine ⟨H2, mo', l10', ?_, Fr_trans t2 b2, fun j hj => (b3 j hj).trans (t3 j hj)⟩
        rw [← b1, x_247_54]
        simp (maxDischargeDepth := 60) only [hk, x_247_0, x_247_1, x_247_2, x_247_3, x_247_4, x_247_5, x_247_7, x_247_10, x_247_13, x_247_14, x_247_17, x_247_20, x_247_21, x_247_22, x_247_23, x_247_24, x_247_27, x_247_28, x_247_30, x_247_33, x_247_34, x_247_35, x_247_36, x_247_39, x_247_40, x_247_42, x_247_43, x_247_45, x_247_46, x_247_48, x_247_49, x_247_51, x_247_52, x_247_56, x_247_57, x_247_60, x_247_63, x_247_66, x_247_67, x_247_68, x_247_70, x_247_72, x_247_73, x_247_75, x_247_76, x_247_79, x_247_82, x_247_85, x_247_86, x_247_89, x_247_92, x_247_93, x_247_95, x_247_96, x_247_97, x_247_98, x_247_99, x_247_102, x_247_103, x_247_104, x_247_107, x_247_108, x_247_110, x_247_111, x_247_112, x_247_113, x_247_114, x_247_115, x_247_118, x_247_119, x_247_121, x_247_122, x_247_123, x_247_124, x_247_125, x_247_126, x_247_127, x_247_129, x_247_131, x_247_133, x_247_136, x_247_139, x_247_141, x_247_143, x_247_145, x_247_147, x_247_150, x_247_155, x_247_156, x_247_159, x_247_162, x_247_163, x_247_164, x_247_166, x_247_168, x_247_169, x_247_171, x_247_172, x_247_175, x_247_176, x_247_179, x_247_181, x_247_182, x_247_185, x_247_188, x_247_189, x_247_191, x_247_192, x_247_193, x_247_194, x_247_195, x_247_196, x_247_198, x_247_199, x_247_201, x_247_204, x_247_205, x_247_206, x_247_209, x_247_212, x_247_213, x_247_216, x_247_219, x_247_220, x_247_222, x_247_223, x_247_224, x_247_225, x_247_228, x_247_229, x_247_231, x_247_234, x_247_235, x_247_236, x_247_239, x_247_242, x_247_244, x_247_245, x_247_248, x_247_249, x_247_251, x_247_254, x_247_257, x_247_258, x_247_260, x_247_263, x_247_265, hpt, pa, c1, t1, bz_0, Bool.true_eq_false, hk1, ept, p0, p1, p2, p3, p4, q0, q1, q2, q3, q4, r0, r1', r2, r3, r4, x2, y0, y1, y2, y3, y4, y5, y6, y7, z0', z1', z2', z3', z4', z5', z6', z7', u0, u1, u2, u3, u4, u5, u6, u7, g1, g5, hd, ho, c2, i_succ, Option.bind_some, mAft_n, mAft_v, mAft_x, mS_n, mS_i, mS_r, mS_l, mS_d, ne_eq, not_false_eq_true, not_true_eq_false, true_or, or_true, and_true, true_and, if_true, if_false, ite_true, ite_false, reduceIte, Nat.reduceAdd, Nat.reduceLeDiff, Nat.reduceEqDiff, false_and, and_false, or_false, false_or, eq_self, reduceCtorEq, mi_316, mi_317, ml_317, mi_318, ml_318, mi_319, ml_319, mi_320, ml_320, mi_321, ml_321, mi_322, ml_322, mi_359, ml_359, mv_316_1, mv_316_4, mv_316_7, mv_316_8, mv_316_9, mv_316_10, mv_316_13, mv_316_14, mv_316_15, pi_0, pi_1, pl_1, pv_1, pi_2, pl_2, pv_2, pi_3, pl_3, pv_3, pi_4, pl_4, pv_4, pi_5, pl_5, pv_5, pi_6, pl_6, pv_10, pi_7, pl_7, pv_11, pi_8, pl_8, pv_12, pi_9, pl_9, pv_13, pi_10, pl_10, pv_14, pi_11, pl_11, pv_15, pv_20, wi_0, wi_1, wl_1, wv_14, wi_2, wl_2, wv_15, wi_3, wl_3, wv_16, wi_4, wl_4, wv_17, wi_5, wl_5, wv_18, wv_21, pt_P, pt_v, pt_w, pt_SI, pt_SL, kM_SI, kM_SL, lI_SL, lV_SL, lK_SL, lN_SL, lL_SL, lIs_SL, nI_SI, nV_SI, nK_SI, nN_SI, nL_SI, nIs_SI, pp_c, pp_l, pp_r, pp_k, pp_k0, pp_j, pp_j0, isl]
