/-! COMPOSING: A LINE, ALL LINES -/
theorem WPp_L {h H : mH} (a : WPp h H) : mL H = mL h := congrArg (fun q => q.1) a.1.1
theorem cm_line {d q rq : Nat} {P l1 l2 : List Int32} {h : mH} {o1 o2 o3 o4 o5 o6 o8 o9 o10 : Option Value} (hk : kM h) (m : ppR h P) (hl : P.length + 33 ≤ 1000) (hq : q < 16) (hr : rq < 12) (hpr : mI h (pt h + 10) (5 * q) = Int32.ofNat rq) (h1 : ∀ x, x ∈ l1 → isLD x = true) (h2 : l1.length ≤ 10) (h3 : mL h (pt h + 6) rq = wdL l1 0) (h4 : ∀ x, x ∈ l2 → isLD x = true) (h5 : l2.length ≤ 10) (h6 : mL h (pt h + 7) q = wdL l2 0) :
    ∃ H, mExec (mCall (d + 5)) 247 198 [some (.ref 316), o1, o2, o3, o4, o5, o6, some (.int (Int32.ofNat q)), o8, o9, o10] [] h = mExec (mCall (d + 5)) 247 45 [some (.ref 316), o1, o2, o3, o4, o5, o6, some (.int (Int32.ofNat q)), o8, o9, o10] [] H ∧ ppR H (P ++ (sGo ++ l1 ++ sPl ++ l2 ++ sEn)) ∧ WPp h H := by
  have g4 : sGo.length = 4 := rfl
  have g7 : sPl.length = 7 := rfl
  have g2 : sEn.length = 2 := rfl
  obtain ⟨H1, a1, a2, a3⟩ := m_write (d := d) hk st_130 m (by omega)
  have k1 := kM_Fr' a3.1 hk
  obtain ⟨H2, b1, b2, b3⟩ := m_writeJ (d := d + 4) k1 h1 h2 a2 (by rw [List.length_append]; omega)
  have k2 := kM_Fr' b3.1 k1
  obtain ⟨H3, c1, c2, c3⟩ := m_write (d := d) k2 st_132 b2 (by rw [List.length_append, List.length_append]; omega)
  have k3 := kM_Fr' c3.1 k2
  obtain ⟨H4, d1, d2, d3⟩ := m_writeJ (d := d + 4) k3 h4 h5 c2 (by rw [List.length_append, List.length_append, List.length_append]; omega)
  have k4 := kM_Fr' d3.1 k3
  obtain ⟨H5, e1, e2, e3⟩ := m_write (d := d) k4 st_134 d2 (by rw [List.length_append, List.length_append, List.length_append, List.length_append]; omega)
  have k5 := kM_Fr' e3.1 k4
  have hpt := pt_P hk
  have n10 : pt h + 10 ∉ [316, 318] := by intro z; simp only [List.mem_cons, List.not_mem_nil, or_false] at z; rcases hpt with e | e <;> rw [e] at z <;> omega
  have p1 : pt H1 = pt h := pt_Fr a3.1
  have p3' : pt H3 = pt h := (pt_Fr c3.1).trans ((pt_Fr b3.1).trans p1)
  have r1' : mI H1 (pt h + 10) (5 * q) = Int32.ofNat rq := (Fr_I a3.1 n10).trans hpr
  have L1 : mL H1 (pt h + 6) rq = wdL l1 0 := by rw [WPp_L a3]; exact h3
  have L3 : mL H3 (pt h + 7) q = wdL l2 0 := by rw [WPp_L c3, WPp_L b3, WPp_L a3]; exact h6
  obtain ⟨p0, p1', p2, p3, p4, q0, q1, q2, q3, q4, r0, r1, r2, r3, r4⟩ := ix5 q hq
  have j1 : mIn (Int32.ofNat rq) 12 = true := i_in (by rw [i_of_i (by omega)]; omega) (by rw [i_of_i (by omega)]; omega)
  have n1 : (Int32.ofNat rq).toNatClampNeg = rq := i_of_n (by omega)
  have j2 : mIn (Int32.ofNat q) 16 = true := i_in (by rw [i_of_i (by omega)]; omega) (by rw [i_of_i (by omega)]; omega)
  have n2 : (Int32.ofNat q).toNatClampNeg = q := i_of_n (by omega)
  refine ⟨H5, ?_, by rw [← List.append_assoc, ← List.append_assoc, ← List.append_assoc, ← List.append_assoc]; exact e2, WPp_t a3 (WPp_t b3 (WPp_t c3 (WPp_t d3 e3)))⟩
  rw [x_247_198]
  simp (maxDischargeDepth := 60) only [hk, x_247_0, x_247_1, x_247_2, x_247_3, x_247_4, x_247_5, x_247_7, x_247_10, x_247_13, x_247_14, x_247_17, x_247_20, x_247_21, x_247_22, x_247_23, x_247_24, x_247_27, x_247_28, x_247_30, x_247_33, x_247_34, x_247_35, x_247_36, x_247_39, x_247_40, x_247_42, x_247_43, x_247_46, x_247_48, x_247_49, x_247_51, x_247_52, x_247_54, x_247_56, x_247_57, x_247_60, x_247_63, x_247_66, x_247_67, x_247_68, x_247_70, x_247_72, x_247_73, x_247_75, x_247_76, x_247_79, x_247_82, x_247_85, x_247_86, x_247_89, x_247_92, x_247_93, x_247_95, x_247_96, x_247_97, x_247_98, x_247_99, x_247_102, x_247_103, x_247_104, x_247_107, x_247_108, x_247_110, x_247_111, x_247_112, x_247_113, x_247_114, x_247_115, x_247_118, x_247_119, x_247_121, x_247_122, x_247_123, x_247_124, x_247_125, x_247_126, x_247_127, x_247_129, x_247_131, x_247_133, x_247_136, x_247_139, x_247_141, x_247_143, x_247_145, x_247_147, x_247_150, x_247_153, x_247_155, x_247_156, x_247_159, x_247_162, x_247_163, x_247_164, x_247_166, x_247_168, x_247_169, x_247_171, x_247_172, x_247_175, x_247_176, x_247_179, x_247_181, x_247_182, x_247_185, x_247_188, x_247_189, x_247_191, x_247_192, x_247_193, x_247_194, x_247_195, x_247_196, x_247_199, x_247_201, x_247_204, x_247_205, x_247_206, x_247_209, x_247_212, x_247_213, x_247_216, x_247_219, x_247_220, x_247_222, x_247_223, x_247_224, x_247_225, x_247_228, x_247_229, x_247_231, x_247_234, x_247_235, x_247_236, x_247_239, x_247_242, x_247_244, x_247_245, x_247_248, x_247_249, x_247_251, x_247_254, x_247_257, x_247_258, x_247_260, x_247_263, x_247_265, hpt, a1, k1, p1, p0, q0, r0, r1', j1, n1, L1, b1, k2, c1, k3, p3', j2, n2, L3, d1, k4, e1, k5, Option.bind_some, mAft_n, mAft_v, mAft_x, mS_n, mS_i, mS_r, mS_l, mS_d, ne_eq, not_false_eq_true, not_true_eq_false, true_or, or_true, and_true, true_and, if_true, if_false, ite_true, ite_false, reduceIte, Nat.reduceAdd, Nat.reduceLeDiff, Nat.reduceEqDiff, false_and, and_false, or_false, false_or, eq_self, reduceCtorEq, mi_316, mi_317, ml_317, mi_318, ml_318, mi_319, ml_319, mi_320, ml_320, mi_321, ml_321, mi_322, ml_322, mi_359, ml_359, mv_316_1, mv_316_4, mv_316_7, mv_316_8, mv_316_9, mv_316_10, mv_316_13, mv_316_14, mv_316_15, pi_0, pi_1, pl_1, pv_1, pi_2, pl_2, pv_2, pi_3, pl_3, pv_3, pi_4, pl_4, pv_4, pi_5, pl_5, pv_5, pi_6, pl_6, pv_10, pi_7, pl_7, pv_11, pi_8, pl_8, pv_12, pi_9, pl_9, pv_13, pi_10, pl_10, pv_14, pi_11, pl_11, pv_15, pv_20, wi_0, wi_1, wl_1, wv_14, wi_2, wl_2, wv_15, wi_3, wl_3, wv_16, wi_4, wl_4, wv_17, wi_5, wl_5, wv_18, wv_21, pt_P, pt_v, pt_w, pt_SI, pt_SL, kM_SI, kM_SL, lI_SL, lV_SL, lK_SL, lN_SL, lL_SL, lIs_SL, nI_SI, nV_SI, nK_SI, nN_SI, nL_SI, nIs_SI, pp_c, pp_l, pp_r, pp_k, pp_k0, pp_j, pp_j0, isl]
theorem wCx_pp {h H : mH} {cl : List CL} {dn : List NS} {ps : List PT} {vs : List (Int32 × Int32 × Int32)} (f : WPp h H) (m : wCx h cl dn ps vs) : wCx H cl dn ps vs := by
  obtain ⟨hk, ⟨d1, d2, d3, d4⟩, mc, h12, ⟨p1, p2, p3⟩, vi, vo⟩ := m
  obtain ⟨f, f6⟩ := f
  have hp := pt_P hk
  have n : ∀ i, i ≤ 11 → pt h + i ∉ [316, 318] := fun i hi z => by simp only [List.mem_cons, List.not_mem_nil, or_false] at z; rcases hp with e | e <;> rw [e] at z <;> omega
  have nt : ∀ i, i ≤ 11 → ∀ j, mI H (pt h + i) j = mI h (pt h + i) j := fun i hi j => Fr_I f (n i hi)
  have nt0 : ∀ j, mI H (pt h) j = mI h (pt h) j := fun j => Fr_I f (n 0 (by omega))
  refine ⟨kM_Fr' f hk, ?_, kCl mc (by funext j; exact Fr_I f (by decide)) (by funext j; exact Fr_I f (by decide)), h12, ?_, kVi vi (f6 6 (by decide)) (by funext j; exact Fr_I f (by decide)), vo⟩
  · rw [pt_Fr f]
    exact ⟨(nt0 7).trans d1, d2, d3, fun k hk => ⟨(nt 9 (by omega) _).trans (d4 k hk).1, (nt 9 (by omega) _).trans (d4 k hk).2.1, (nt 9 (by omega) _).trans (d4 k hk).2.2⟩⟩
  · rw [pt_Fr f]
    refine ⟨(nt0 8).trans p1, p2, fun k hk => ?_⟩
    obtain ⟨x0, x1, x2, x3, x4⟩ := p3 k hk
    exact ⟨(nt 10 (by omega) _).trans x0, (nt 10 (by omega) _).trans x1, (nt 10 (by omega) _).trans x2, (nt 10 (by omega) _).trans x3, (nt 10 (by omega) _).trans x4⟩
theorem rowR_Fr {W : List Nat} {h H : mH} {i : Nat} {S : CS} (f : Fr W h H) (hW : 359 ∉ W) (m : rowR h i S) : rowR H i S := rowR_keep m (fun _ _ => Fr_I f hW)
theorem comp_l {d who pc : Nat} {sec time room : Int32} {E : EV} {vs : List (Int32 × Int32 × Int32)} {rn pn : List (List Int32)} {wN : Nat → Nat} {lim : Nat} (hwh : who < vs.length) (hp : psB E.2.2.1 wN) (hlim : sec + time = Int32.ofNat lim) (hlim2 : lim ≤ 200000) (hpc : lg (vs.map (·.1)) (Int32.ofNat who) = Int32.ofNat pc) (hpc1 : 1 ≤ pc) (hpc9 : pc ≤ 1000) (hst : ¬ lg (vs.map (·.2.1)) (Int32.ofNat who) < 0) (hrn : rn.length ≤ 12) (hw1 : w10 rn) (hw2 : w10 pn) (hpl : pn.length = E.2.2.1.length) (hrl : ∀ p, p < E.2.2.1.length → ∃ q, q < rn.length ∧ lg (E.2.2.1.map (·.1)) (Int32.ofNat p) = Int32.ofNat q) :
    ∀ (n t : Nat) (S : CS) (P : List Int32) (s : Nat) (h : mH) (o7 o8 o9 o10 : Option Value), t + n = E.2.2.1.length → hdN S.2.2.2.1 E.2.2.1.length = t → S.1 = Int32.ofNat s → s ≤ 200000 → rOK12 S.2.1 → ¬ lg (vs.map (·.2.1)) (Int32.ofNat who) < S.2.2.1 → P.length + 33 * n + 2 ≤ 1000 → wCx h E.1 E.2.1 E.2.2.1 vs → nmsOK rn (mL h (pt h + 6)) → nmsOK pn (mL h (pt h + 7)) → rowR h t S → ppR h P →
    ∃ H, mExec (mCall (d + 5)) 247 45 [some (.ref 316), some (.int (Int32.ofNat who)), some (.int room), some (.int sec), some (.int time), some (.int S.2.2.2.2), some (.int (Int32.ofNat t)), o7, o8, o9, o10] [] h = some (.inl (some (.int (cTk (vKK vs (Int32.ofNat who) (sec + time)) E n S).2.2.2.2.2)), H) ∧ ppR H (P ++ (cLines rn.flatten pn.flatten E.2.2.1 (cTk (vKK vs (Int32.ofNat who) (sec + time)) E n S).1 ++ sFt)) ∧ Fr [316, 318, 322, 359] h H ∧ ∀ j, ¬ j = 5 → mI H 316 j = mI h 316 j := by
  have l16 := hp.1
  intro n
  induction n with
  | zero =>
    intro t S P s h o7 o8 o9 o10 e hc hS hs2 hr hti hPl w n1 n2 m pp
    have hall := hdN_all (he := S.2.2.2.1) E.2.2.1.length (by omega)
    obtain ⟨H1, mo', l10', c1, c2, c3⟩ := ch_l (d := d + 2) (t := t) (room := room) (worth := S.2.2.2.2) hwh hp (by omega) hS hs2 hlim hlim2 hpc hpc1 hpc9 hr hti E.2.2.1.length 0 (-1) (-1) h o10 (by omega) (by decide) w m
    have cx := cChL_x (K := vKK vs (Int32.ofNat who) (sec + time)) (E := E) (S := S) (wN := wN) E.2.2.1.length 0 (-1) (-1) (Nat.zero_add _) (Or.inl rfl) (by decide)
    have cm : cChL (vKK vs (Int32.ofNat who) (sec + time)) E S E.2.2.1.length 0 (-1) (-1) = -1 := by
      rcases cx with z | ⟨q, z1, z2, z3⟩
      · exact z
      · rw [cTake_heard (hall q z1)] at z3; cases z3
    rw [cm] at c1
    have hk1 := kM_Fr' c2 w.1
    have pp1 : ppR H1 P := kPp pp (Fr_I c2 (by decide)) (by funext y; exact Fr_I c2 (by decide))
    have f2 : sFt.length = 2 := rfl
    obtain ⟨H2, d1, d2, d3⟩ := m_write (d := d) hk1 st_136 pp1 (by omega)
    have hk2 := kM_Fr' d3.1 hk1
    refine ⟨H2, ?_, d2, Fr_trans (Fr_mono c2 (by simp)) (Fr_mono d3.1 (by simp)), fun j hj => (d3.2 j hj).trans (Fr_I c2 (by decide))⟩
    have c1' : mExec (mCall (d + 5)) 247 54 [some (.ref 316), some (.int (Int32.ofNat who)), some (.int room), some (.int sec), some (.int time), some (.int S.2.2.2.2), some (.int (Int32.ofNat t)), some (.int (-1)), some (.int (-1)), some (.int 0), o10] [] h = _ := c1
    have b1 : (-1 : Int32) = -1 := rfl
    rw [cTk, x_247_45, x_247_46, x_247_48, x_247_49, x_247_51, x_247_52, c1', x_247_153]
    have hk := hk1
    simp (maxDischargeDepth := 60) only [hk, x_247_0, x_247_1, x_247_2, x_247_3, x_247_4, x_247_5, x_247_7, x_247_10, x_247_13, x_247_14, x_247_17, x_247_20, x_247_21, x_247_22, x_247_23, x_247_24, x_247_27, x_247_28, x_247_30, x_247_33, x_247_34, x_247_35, x_247_36, x_247_39, x_247_40, x_247_42, x_247_43, x_247_46, x_247_48, x_247_49, x_247_51, x_247_52, x_247_56, x_247_57, x_247_60, x_247_63, x_247_66, x_247_67, x_247_68, x_247_70, x_247_72, x_247_73, x_247_75, x_247_76, x_247_79, x_247_82, x_247_85, x_247_86, x_247_89, x_247_92, x_247_93, x_247_95, x_247_96, x_247_97, x_247_98, x_247_99, x_247_102, x_247_103, x_247_104, x_247_107, x_247_108, x_247_110, x_247_111, x_247_112, x_247_113, x_247_114, x_247_115, x_247_118, x_247_119, x_247_121, x_247_122, x_247_123, x_247_124, x_247_125, x_247_126, x_247_127, x_247_129, x_247_131, x_247_133, x_247_136, x_247_139, x_247_141, x_247_143, x_247_145, x_247_147, x_247_150, x_247_155, x_247_156, x_247_159, x_247_162, x_247_163, x_247_164, x_247_166, x_247_168, x_247_169, x_247_171, x_247_172, x_247_175, x_247_176, x_247_179, x_247_181, x_247_182, x_247_185, x_247_188, x_247_189, x_247_191, x_247_192, x_247_193, x_247_194, x_247_195, x_247_196, x_247_198, x_247_199, x_247_201, x_247_204, x_247_205, x_247_206, x_247_209, x_247_212, x_247_213, x_247_216, x_247_219, x_247_220, x_247_222, x_247_223, x_247_224, x_247_225, x_247_228, x_247_229, x_247_231, x_247_234, x_247_235, x_247_236, x_247_239, x_247_242, x_247_244, x_247_245, x_247_248, x_247_249, x_247_251, x_247_254, x_247_257, x_247_258, x_247_260, x_247_263, x_247_265, b1, d1, hk2, Option.bind_some, mAft_n, mAft_v, mAft_x, mS_n, mS_i, mS_r, mS_l, mS_d, ne_eq, not_false_eq_true, not_true_eq_false, true_or, or_true, and_true, true_and, if_true, if_false, ite_true, ite_false, reduceIte, Nat.reduceAdd, Nat.reduceLeDiff, Nat.reduceEqDiff, false_and, and_false, or_false, false_or, eq_self, reduceCtorEq, mi_316, mi_317, ml_317, mi_318, ml_318, mi_319, ml_319, mi_320, ml_320, mi_321, ml_321, mi_322, ml_322, mi_359, ml_359, mv_316_1, mv_316_4, mv_316_7, mv_316_8, mv_316_9, mv_316_10, mv_316_13, mv_316_14, mv_316_15, pi_0, pi_1, pl_1, pv_1, pi_2, pl_2, pv_2, pi_3, pl_3, pv_3, pi_4, pl_4, pv_4, pi_5, pl_5, pv_5, pi_6, pl_6, pv_10, pi_7, pl_7, pv_11, pi_8, pl_8, pv_12, pi_9, pl_9, pv_13, pi_10, pl_10, pv_14, pi_11, pl_11, pv_15, pv_20, wi_0, wi_1, wl_1, wv_14, wi_2, wl_2, wv_15, wi_3, wl_3, wv_16, wi_4, wl_4, wv_17, wi_5, wl_5, wv_18, wv_21, pt_P, pt_v, pt_w, pt_SI, pt_SL, kM_SI, kM_SL, lI_SL, lV_SL, lK_SL, lN_SL, lL_SL, lIs_SL, nI_SI, nV_SI, nK_SI, nN_SI, nL_SI, nIs_SI, pp_c, pp_l, pp_r, pp_k, pp_k0, pp_j, pp_j0, isl]
  | succ n ih =>
    intro t S P s h o7 o8 o9 o10 e hc hS hs2 hr hti hPl w n1 n2 m pp
    obtain ⟨H1, mo', l10', c1, c2, c3⟩ := ch_l (d := d + 2) (t := t) (room := room) (worth := S.2.2.2.2) hwh hp (by omega) hS hs2 hlim hlim2 hpc hpc1 hpc9 hr hti E.2.2.1.length 0 (-1) (-1) h o10 (by omega) (by decide) w m
    have cx := cChL_x (K := vKK vs (Int32.ofNat who) (sec + time)) (E := E) (S := S) (wN := wN) E.2.2.1.length 0 (-1) (-1) (Nat.zero_add _) (Or.inl rfl) (by decide)
    have w1 := wCx_Fr c2 (by intro a ha; simp only [List.mem_cons, List.not_mem_nil, or_false] at ha; omega) w
    have hk1 := w1.1
    have pp1 : ppR H1 P := kPp pp (Fr_I c2 (by decide)) (by funext y; exact Fr_I c2 (by decide))
    have c1' : mExec (mCall (d + 5)) 247 54 [some (.ref 316), some (.int (Int32.ofNat who)), some (.int room), some (.int sec), some (.int time), some (.int S.2.2.2.2), some (.int (Int32.ofNat t)), some (.int (-1)), some (.int (-1)), some (.int 0), o10] [] h = _ := c1
    rw [cTk, x_247_45, x_247_46, x_247_48, x_247_49, x_247_51, x_247_52, c1']
    have eC : cChoose (vKK vs (Int32.ofNat who) (sec + time)) E S = cChL (vKK vs (Int32.ofNat who) (sec + time)) E S E.2.2.1.length 0 (-1) (-1) := rfl
    rw [eC]
    rcases cx with z | ⟨q, z1, z2, z3⟩
    · rw [z, if_pos (by decide)]
      have f2 : sFt.length = 2 := rfl
      obtain ⟨H2, d1, d2, d3⟩ := m_write (d := d) hk1 st_136 pp1 (by omega)
      have hk2 := kM_Fr' d3.1 hk1
      refine ⟨H2, ?_, d2, Fr_trans (Fr_mono c2 (by simp)) (Fr_mono d3.1 (by simp)), fun j hj => (d3.2 j hj).trans (Fr_I c2 (by decide))⟩
      have b1 : (-1 : Int32) = -1 := rfl
      rw [x_247_153]
      have hk := hk1
      simp (maxDischargeDepth := 60) only [hk, x_247_0, x_247_1, x_247_2, x_247_3, x_247_4, x_247_5, x_247_7, x_247_10, x_247_13, x_247_14, x_247_17, x_247_20, x_247_21, x_247_22, x_247_23, x_247_24, x_247_27, x_247_28, x_247_30, x_247_33, x_247_34, x_247_35, x_247_36, x_247_39, x_247_40, x_247_42, x_247_43, x_247_46, x_247_48, x_247_49, x_247_51, x_247_52, x_247_56, x_247_57, x_247_60, x_247_63, x_247_66, x_247_67, x_247_68, x_247_70, x_247_72, x_247_73, x_247_75, x_247_76, x_247_79, x_247_82, x_247_85, x_247_86, x_247_89, x_247_92, x_247_93, x_247_95, x_247_96, x_247_97, x_247_98, x_247_99, x_247_102, x_247_103, x_247_104, x_247_107, x_247_108, x_247_110, x_247_111, x_247_112, x_247_113, x_247_114, x_247_115, x_247_118, x_247_119, x_247_121, x_247_122, x_247_123, x_247_124, x_247_125, x_247_126, x_247_127, x_247_129, x_247_131, x_247_133, x_247_136, x_247_139, x_247_141, x_247_143, x_247_145, x_247_147, x_247_150, x_247_155, x_247_156, x_247_159, x_247_162, x_247_163, x_247_164, x_247_166, x_247_168, x_247_169, x_247_171, x_247_172, x_247_175, x_247_176, x_247_179, x_247_181, x_247_182, x_247_185, x_247_188, x_247_189, x_247_191, x_247_192, x_247_193, x_247_194, x_247_195, x_247_196, x_247_198, x_247_199, x_247_201, x_247_204, x_247_205, x_247_206, x_247_209, x_247_212, x_247_213, x_247_216, x_247_219, x_247_220, x_247_222, x_247_223, x_247_224, x_247_225, x_247_228, x_247_229, x_247_231, x_247_234, x_247_235, x_247_236, x_247_239, x_247_242, x_247_244, x_247_245, x_247_248, x_247_249, x_247_251, x_247_254, x_247_257, x_247_258, x_247_260, x_247_263, x_247_265, b1, d1, hk2, Option.bind_some, mAft_n, mAft_v, mAft_x, mS_n, mS_i, mS_r, mS_l, mS_d, ne_eq, not_false_eq_true, not_true_eq_false, true_or, or_true, and_true, true_and, if_true, if_false, ite_true, ite_false, reduceIte, Nat.reduceAdd, Nat.reduceLeDiff, Nat.reduceEqDiff, false_and, and_false, or_false, false_or, eq_self, reduceCtorEq, mi_316, mi_317, ml_317, mi_318, ml_318, mi_319, ml_319, mi_320, ml_320, mi_321, ml_321, mi_322, ml_322, mi_359, ml_359, mv_316_1, mv_316_4, mv_316_7, mv_316_8, mv_316_9, mv_316_10, mv_316_13, mv_316_14, mv_316_15, pi_0, pi_1, pl_1, pv_1, pi_2, pl_2, pv_2, pi_3, pl_3, pv_3, pi_4, pl_4, pv_4, pi_5, pl_5, pv_5, pi_6, pl_6, pv_10, pi_7, pl_7, pv_11, pi_8, pl_8, pv_12, pi_9, pl_9, pv_13, pi_10, pl_10, pv_14, pi_11, pl_11, pv_15, pv_20, wi_0, wi_1, wl_1, wv_14, wi_2, wl_2, wv_15, wi_3, wl_3, wv_16, wi_4, wl_4, wv_17, wi_5, wl_5, wv_18, wv_21, pt_P, pt_v, pt_w, pt_SI, pt_SL, kM_SI, kM_SL, lI_SL, lV_SL, lK_SL, lN_SL, lL_SL, lIs_SL, nI_SI, nV_SI, nK_SI, nN_SI, nL_SI, nIs_SI, pp_c, pp_l, pp_r, pp_k, pp_k0, pp_j, pp_j0, isl]
    · have nq : ¬ Int32.ofNat q < 0 := by rw [show (0 : Int32) = Int32.ofNat 0 from rfl, i_oflt (by omega) (by omega)]; omega
      have nq1 : ¬ Int32.ofNat q = -1 := by
        intro y
        rw [y] at nq
        exact nq (by decide)
      rw [z2, if_neg nq]
      have hS12 := hr
      obtain ⟨r, hr12, hre⟩ := hr
      obtain ⟨⟨rq, hq12, hqe⟩, hwp, hw99, x, hx1, hx2, hxe⟩ := hp.2 q z1
      obtain ⟨rq', hq', hqe'⟩ := hrl q z1
      have : rq' = rq := by
        have := hqe'.symm.trans hqe
        have t := congrArg Int32.toNatClampNeg this
        rw [i_of_n (by omega), i_of_n (by omega)] at t
        exact t
      subst this
      have m1 := rowR_keep m c3
      have ht17 : t < 17 := by omega
      obtain ⟨H2, t1, t2, t3, t4⟩ := m_take (d := d + 2) (lim := sec + time) w1 hwh ht17 z1 hre hr12 hqe hq12 hti m1
      obtain ⟨g1, g2, g3, g4, g5⟩ := cTake_ok z3 hti hst
      obtain ⟨s', hs', hss, hsl⟩ := cTake_sec z3 hS hs2 hpc hpc1 hpc9 hxe hx1 hx2 hlim hlim2
      have r2 := t4 z3
      have w2 := wCx_Fr t2 (by intro a ha; simp only [List.mem_cons, List.not_mem_nil, or_false] at ha; omega) w1
      have hk2 := w2.1
      have ep1 := pt_Fr c2
      have ep2 := pt_Fr t2
      have pp2 : ppR H2 P := kPp pp1 (Fr_I t2 (by decide)) (by funext y; exact Fr_I t2 (by decide))
      have L1 : mL H1 = mL h := congrArg (fun q => q.1) c2.1
      have L2 : mL H2 = mL h := (congrArg (fun q => q.1) t2.1).trans L1
      obtain ⟨l1, a1, a2, a3, a4⟩ := nm_write hw1 hq' (by omega) (n1 rq' hq')
      have hqp : q < pn.length := by omega
      obtain ⟨l2, b1, b2, b3, b4⟩ := nm_write hw2 hqp (by omega) (n2 q hqp)
      have x0 : mI H2 (pt H2 + 10) (5 * q) = Int32.ofNat rq' := ((w2.2.2.2.2.1.2.2 q z1).1).trans hqe
      obtain ⟨H3, d1, d2, d3⟩ := cm_line (d := d) (q := q) (rq := rq') (l1 := l1) (l2 := l2) (o1 := some (.int (Int32.ofNat who))) (o2 := some (.int room)) (o3 := some (.int sec)) (o4 := some (.int time)) (o5 := some (.int (cTake (vKK vs (Int32.ofNat who) (sec + time)) E (Int32.ofNat q) S).2.2.2.2.2)) (o6 := some (.int (Int32.ofNat (t + 1)))) (o8 := some (.int mo')) (o9 := some (.int (Int32.ofNat E.2.2.1.length))) (o10 := l10') hk2 pp2 (by omega) (by omega) hq12 x0 a1 a2 (by rw [L2, ep2, ep1]; exact a4) b1 b2 (by rw [L2, ep2, ep1]; exact b4)
      have w3 := wCx_pp d3 w2
      have ep3 : pt H3 = pt h := (pt_Fr d3.1).trans (ep2.trans ep1)
      have L3 : mL H3 = mL h := (WPp_L d3).trans L2
      have r3 := rowR_Fr d3.1 (by decide) r2
      have g4' : sGo.length = 4 := rfl
      have g7 : sPl.length = 7 := rfl
      have g2' : sEn.length = 2 := rfl
      obtain ⟨H4, e1, e2, e3, e4⟩ := ih (t + 1) (cTake (vKK vs (Int32.ofNat who) (sec + time)) E (Int32.ofNat q) S).2 (P ++ (sGo ++ l1 ++ sPl ++ l2 ++ sEn)) s' H3 (some (.int (Int32.ofNat q))) (some (.int mo')) (some (.int (Int32.ofNat E.2.2.1.length))) l10' (by omega) (by rw [g2, hdN_or g1 _ (by omega) (by omega), if_pos z1]; omega) hs' (by omega) ⟨rq', hq12, g5.trans hqe⟩ g4 (by simp only [List.length_append]; omega) w3 (by rw [L3, ep3]; exact n1) (by rw [L3, ep3]; exact n2) r3 d2
      have eL : cLine rn.flatten pn.flatten E.2.2.1 (Int32.ofNat q) = sGo ++ l1 ++ sPl ++ l2 ++ sEn := by
        unfold cLine
        rw [hqe, a3, b3]
      refine ⟨H4, ?_, ?_, Fr_trans (Fr_trans (Fr_mono c2 (by simp)) (Fr_mono t2 (by simp))) (Fr_trans (Fr_mono d3.1 (by simp)) e3), fun j hj => (e4 j hj).trans ((d3.2 j hj).trans ((Fr_I t2 (by decide)).trans (Fr_I c2 (by decide))))⟩
      · refine Eq.trans ?_ e1
        refine Eq.trans ?_ d1
        obtain ⟨p0, p1, p2, p3, p4, q0, q1, q2, q3, q4, r0, r1', r2', r3', r4⟩ := ix5 q (by omega)
        have x2 : mI H2 (pt H2 + 10) (5 * q + 2) = lg (E.2.2.1.map (·.2.2.1)) (Int32.ofNat q) := (w2.2.2.2.2.1.2.2 q z1).2.2.1
        have hpt2 := pt_P hk2
        have hk := hk1
        rw [x_247_153, g3]
        simp (maxDischargeDepth := 60) only [hk, x_247_0, x_247_1, x_247_2, x_247_3, x_247_4, x_247_5, x_247_7, x_247_10, x_247_13, x_247_14, x_247_17, x_247_20, x_247_21, x_247_22, x_247_23, x_247_24, x_247_27, x_247_28, x_247_30, x_247_33, x_247_34, x_247_35, x_247_36, x_247_39, x_247_40, x_247_42, x_247_43, x_247_45, x_247_46, x_247_48, x_247_49, x_247_51, x_247_52, x_247_54, x_247_56, x_247_57, x_247_60, x_247_63, x_247_66, x_247_67, x_247_68, x_247_70, x_247_72, x_247_73, x_247_75, x_247_76, x_247_79, x_247_82, x_247_85, x_247_86, x_247_89, x_247_92, x_247_93, x_247_95, x_247_96, x_247_97, x_247_98, x_247_99, x_247_102, x_247_103, x_247_104, x_247_107, x_247_108, x_247_110, x_247_111, x_247_112, x_247_113, x_247_114, x_247_115, x_247_118, x_247_119, x_247_121, x_247_122, x_247_123, x_247_124, x_247_125, x_247_126, x_247_127, x_247_129, x_247_131, x_247_133, x_247_136, x_247_139, x_247_141, x_247_143, x_247_145, x_247_147, x_247_150, x_247_153, x_247_155, x_247_156, x_247_159, x_247_162, x_247_163, x_247_164, x_247_166, x_247_168, x_247_169, x_247_171, x_247_172, x_247_175, x_247_176, x_247_179, x_247_181, x_247_182, x_247_185, x_247_188, x_247_189, x_247_191, x_247_192, x_247_193, x_247_194, x_247_195, x_247_196, x_247_199, x_247_201, x_247_204, x_247_205, x_247_206, x_247_209, x_247_212, x_247_213, x_247_216, x_247_219, x_247_220, x_247_222, x_247_223, x_247_224, x_247_225, x_247_228, x_247_229, x_247_231, x_247_234, x_247_235, x_247_236, x_247_239, x_247_242, x_247_244, x_247_245, x_247_248, x_247_249, x_247_251, x_247_254, x_247_257, x_247_258, x_247_260, x_247_263, x_247_265, nq1, hk1, t1, hpt2, hk2, p0, p1, p2, p3, p4, q0, q1, q2, q3, q4, r0, r1', r2', r3', r4, x2, i_succ, Option.bind_some, mAft_n, mAft_v, mAft_x, mS_n, mS_i, mS_r, mS_l, mS_d, ne_eq, not_false_eq_true, not_true_eq_false, true_or, or_true, and_true, true_and, if_true, if_false, ite_true, ite_false, reduceIte, Nat.reduceAdd, Nat.reduceLeDiff, Nat.reduceEqDiff, false_and, and_false, or_false, false_or, eq_self, reduceCtorEq, mi_316, mi_317, ml_317, mi_318, ml_318, mi_319, ml_319, mi_320, ml_320, mi_321, ml_321, mi_322, ml_322, mi_359, ml_359, mv_316_1, mv_316_4, mv_316_7, mv_316_8, mv_316_9, mv_316_10, mv_316_13, mv_316_14, mv_316_15, pi_0, pi_1, pl_1, pv_1, pi_2, pl_2, pv_2, pi_3, pl_3, pv_3, pi_4, pl_4, pv_4, pi_5, pl_5, pv_5, pi_6, pl_6, pv_10, pi_7, pl_7, pv_11, pi_8, pl_8, pv_12, pi_9, pl_9, pv_13, pi_10, pl_10, pv_14, pi_11, pl_11, pv_15, pv_20, wi_0, wi_1, wl_1, wv_14, wi_2, wl_2, wv_15, wi_3, wl_3, wv_16, wi_4, wl_4, wv_17, wi_5, wl_5, wv_18, wv_21, pt_P, pt_v, pt_w, pt_SI, pt_SL, kM_SI, kM_SL, lI_SL, lV_SL, lK_SL, lN_SL, lL_SL, lIs_SL, nI_SI, nV_SI, nK_SI, nN_SI, nL_SI, nIs_SI, pp_c, pp_l, pp_r, pp_k, pp_k0, pp_j, pp_j0, isl]
      · rw [show (cTk (vKK vs (Int32.ofNat who) (sec + time)) E n (cTake (vKK vs (Int32.ofNat who) (sec + time)) E (Int32.ofNat q) S).2).1 = (cTk (vKK vs (Int32.ofNat who) (sec + time)) E n (cTake (vKK vs (Int32.ofNat who) (sec + time)) E (Int32.ofNat q) S).2).1 from rfl]
        show ppR H4 (P ++ (cLines rn.flatten pn.flatten E.2.2.1 (Int32.ofNat q :: (cTk (vKK vs (Int32.ofNat who) (sec + time)) E n (cTake (vKK vs (Int32.ofNat who) (sec + time)) E (Int32.ofNat q) S).2).1) ++ sFt))
        rw [cLines, eL, List.append_assoc (sGo ++ l1 ++ sPl ++ l2 ++ sEn), ← List.append_assoc P]
        exact e2
