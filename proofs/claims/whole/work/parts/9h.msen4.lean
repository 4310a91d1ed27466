/-! SENTENCES: BOTH SIDES, IF -/
theorem j_if {D v who nx en fi ti a q pc : Nat} {lim : Int32} {S : VS} {fs : List FRM} {ls' rs : List Int32} {h : mH} {cl : List CL} {dn : List NS} {ps : List PT} {vs : List (Int32 × Int32 × Int32)} {k : Nat → Nat} {n : Nat} {V L : Nat → Int32} {nt : Nat} {T : Nat → Nat} {E : EV} (m : xT h v who cl dn ps vs k n V L nt T) (hs : wS h v who lim (vSent S)) (f : frS h v ((nx, en, fi, ti, a, q) :: fs)) (hE1 : E.1 = cl) (hE2 : E.2.1 = dn) (hE3 : E.2.2.1 = ps) (hT : TOU k n V L ps.length E nt T) (hr : ∃ r, r < 12 ∧ S.2.1 = Int32.ofNat r) (hl : S.2.2.2.2.2.2.2.2.2.length + 6 ≤ 1920) (hq6 : q ≤ nt) (hA : AT k n V L ps.length E ((nx, en, fi, ti, a, q) :: fs) pc ls' rs) (hne : ¬ nx = en) (ho : ovr (vKK vs (Int32.ofNat who) lim) S = false) (hk14 : k nx = 14) : SOUT (D + 28) v who lim S pc nx en fi ti a q fs ls' rs h cl dn ps vs k n V L nt T E := by
  obtain ⟨l, c1, e1, s1, s2, s3, s4, s5, s6, s7⟩ := at_next hA hne
  have s2' : pIf k (pTst k (pSingle k a)) (pBlock k a) nx pc = (l, some (c1, e1)) := by rw [← s2]; unfold pSen; rw [if_neg (by omega), if_neg (by omega), if_neg (by omega), if_neg (by omega), if_pos hk14]
  obtain ⟨i1, ct, et, i2, c2, e2, _, hp1, hp2, alt⟩ := if_inv s2'
  have m0 := m
  obtain ⟨w, hv, hwh, hn, tk', k50, knx, hnt, tt⟩ := m
  have hn1 := knx nx (by omega) (by omega)
  have st0 := m_sen0 (d := D + 27) m0 f s1 rfl hn1
  rw [if_neg (by omega), if_neg (by omega), if_neg (by omega), if_neg (by omega), if_neg (by omega)] at st0
  obtain ⟨c0, w1, w2, w3, w4, w5, w6, w7, _⟩ := id hA
  -- the test
  generalize hh1 : mSI h (v + 2) fs.length (Int32.ofNat (nx + 3)) = h1 at st0
  have fv1 : Fr [v, v + 2] h h1 := by rw [← hh1]; exact Fr_SI ⟨rfl, fun _ _ _ => rfl⟩ (by simp)
  have hWv : ∀ b, b ∈ [v, v + 2] → b = 322 ∨ 347 ≤ b := by intro b hb; simp only [List.mem_cons, List.not_mem_nil, or_false] at hb; rcases hv with rfl | rfl <;> omega
  have x1 := xT_Fr fv1 hWv m0
  have kg1 : KG v h h1 := fun j _ => by rw [← hh1, mI_SI_other (by omega)]
  have hs1 : wS h1 v who lim (vSent S) := wS_KG kg1 (by rw [← hh1, mI_SI_other (by omega)]) hs
  have X := xT_xS x1 hs1
  have tE := e_test X (by omega) (mo_single a) (e_single X a (D + 21 - 3 * a))
  have evt : evOK V ps.length et := by
    rcases alt with ⟨_, _, _, he⟩ | ⟨_, c3, e3, _, _, he⟩
    · rw [he] at s3; exact EVQ_ok (EVQ_l s3)
    · rw [he] at s3; exact EVQ_ok (EVQ_l (EVQ_l s3))
  obtain ⟨hi1, x, gx, gm⟩ := tE (nx + 1) (pc + 1) i1 ct et hn1 hp1 evt
  rw [show D + 21 - 3 * a + 4 + 3 * a + 2 = D + 27 by omega] at gm
  have hx := gx [] (by rw [List.length_nil]; omega)
  rw [List.nil_append, ← hE1] at hx
  have h10 := xo_tst k50 (xo_single k50 a) (nx + 1) (pc + 1) i1 ct et hp1
  have hk1 := x1.1.1
  have hk := hk1
  have hp := pt_P hk1
  have hj1 : mIn (Int32.ofNat i1) 402 = true := i_in (by rw [i_of_i (by omega)]; omega) (by rw [i_of_i (by omega)]; omega)
  have en1 : (Int32.ofNat i1).toNatClampNeg = i1 := i_of_n (by omega)
  have hjf : mIn (Int32.ofNat fs.length) 64 = true := i_in (by rw [i_of_i (by omega)]; omega) (by rw [i_of_i (by omega)]; omega)
  have enf : (Int32.ofNat fs.length).toNatClampNeg = fs.length := i_of_n (by omega)
  have b0' : ∀ b, bz b = 0 ∨ bz b = 1 := fun _ => bz_1
  have n10 : ¬ (1 : Int32) = 0 := by decide
  -- the state ahead of entering
  generalize hh3 : mSI (mSI h1 v 20 (Int32.ofNat i1)) (v + 2) fs.length (Int32.ofNat l) = h3
  have fv3 : Fr [v, v + 2] h h3 := by rw [← hh3]; exact Fr_SI (Fr_SI fv1 (by simp)) (by simp)
  have F3 : Fr (WV v) h h3 := Fr_mono fv3 (by unfold WV; simp)
  have x3 := xT_Fr fv3 hWv m0
  have kg3 : KG v h h3 := fun j hj => by rw [← hh3, mI_SI_other (by omega), nI_SI, if_neg (by omega)]; exact kg1 j hj
  have hs3 : wS h3 v who lim (vSent S) := wS_KG kg3 (by rw [← hh3, mI_SI_other (by omega), mI_SI_other (by omega), ← hh1, mI_SI_other (by omega)]) hs
  have fn2 : frS (mSI h1 v 20 (Int32.ofNat i1)) v ((nx + 3, en, fi, ti, a, q) :: fs) := by
    have fn := frS_nx (nx' := nx + 3) f
    rw [hh1] at fn
    refine ⟨by rw [nI_SI, if_neg (by omega)]; exact fn.1, fn.2.1, frR_keep _ (fun c y h1 h2 h3 => by rw [mI_SI_other (by omega)]) fn.2.2⟩
  have fn3 := frS_nx (nx' := l) fn2
  rw [hh3] at fn3
  have hk3 := x3.1.1
  have m00 : mI h3 v 0 = mI h v 0 := kg3 0 (by omega)
  have m011 : mI h3 v 11 = mI h v 11 := kg3 11 (by omega)
  have lz := (x1.2.2.2.2.1 i1 hi1).2.2
  -- how it ends, with one more frame
  have endN : ∀ (N bb z a' : Nat) (s : VM), N ≤ 452 → VRn (vKK vs (Int32.ofNat who) lim) E N (Int32.ofNat pc, [], ls', rs, true, false, S) s → L bb = Int32.ofNat z → bb < n → 1 ≤ a → WW k n V L ps.length E ((bb + 1, z, bb + 1, 1, a', q) :: (l, en, fi, ti, a, q) :: fs) s (vSent S) →
      (∀ H, mCall (D + 27) 199 [.ref v, .int (Int32.ofNat bb), .int 1] h3 = some (.inl none, H) → kM H → mCall (D + 28) 212 [.ref v] h = some (.inl none, H)) → SOUT (D + 28) v who lim S pc nx en fi ti a q fs ls' rs h cl dn ps vs k n V L nt T E := by
    intro N bb z a' s hN vr hz hb ha1 ww mc
    obtain ⟨H, y1, y2, y3, y4⟩ := m_enter (d := D + 26) (b := bb) (z := z) (m := 1) (a := a') (q := q) hk3 hv fn3 (by rw [List.length_cons]; omega) (by omega) ((x3.2.2.2.2.1 bb hb).2.2.trans hz)
    have F : Fr (WV v) h H := Fr_trans F3 (Fr_mono y4 (by unfold WF WV; simp))
    refine ⟨H, _, vSent S, N, s, by omega, vr, ww, mc H y1 (kM_Fr' y4 hk3), xT_Fr F (WV_ok hv) m0, wS_KF y3 (by funext y; exact Fr_I y4 (by unfold WF; simp)) hs3, y2, (y3 0 (by decide)).trans m00, (y3 11 (by decide)).trans m011, F, hr, by rw [vSent_p.2.2.1]; omega, vSent_p.2.2.2, ?_, fq2 (Nat.le_refl q) (Nat.le_refl q)⟩
    rw [phi_c, phi_c, phi_c]
    have := phi_nx (nx := nx) (nx' := l) (en := en) (fi := fi) (ti := ti) (a := a) (q := q)
    have := phi_new (nx := bb + 1) (en := z) (fi := bb + 1) (ti := 1) (a := a') (q := q) (by omega)
    omega
  have ha1 : 1 ≤ a := by
    obtain ⟨a2, _, _, h2, _⟩ := blk_inv hp2
    omega
  have st1 : ∀ (z : Nat), L i1 = Int32.ofNat z → z + 1 = i2 → i2 < n → mCall (D + 28) 212 [.ref v] h = mExec (mCall (D + 27)) 212 232 [some (.ref v), some (.int (Int32.ofNat fs.length)), some (.int (Int32.ofNat nx)), some (.int (V (nx + 1))), some (.int (bz x)), some (.int (Int32.ofNat i1)), some (.int (Int32.ofNat i2)), none] [.int (if k i2 = 15 then 1 else 0)] (mSI h1 v 20 (Int32.ofNat i1)) := by
    intro z hz hz2 hi2
    rw [hz] at lz
    have kq := (x1.2.2.2.2.1 i2 hi2).1
    have wE := kap_eq (x := 15) 15 (k50 i2) (by decide) (by decide)
    have hj2 : mIn (Int32.ofNat i2) 402 = true := i_in (by rw [i_of_i (by omega)]; omega) (by rw [i_of_i (by omega)]; omega)
    have en2 : (Int32.ofNat i2).toNatClampNeg = i2 := i_of_n (by omega)
    have ez : Int32.ofNat z + 1 = Int32.ofNat i2 := by rw [i_succ, hz2]
    have ip1 : Int32.ofNat nx + 1 = Int32.ofNat (nx + 1) := i_succ
    rw [st0, x_212_173]
    by_cases g : k i2 = 15
    · have g' := eq_true g
      rw [if_pos g]
      simp (maxDischargeDepth := 60) only [hk, x_212_0, x_212_1, x_212_4, x_212_5, x_212_6, x_212_7, x_212_8, x_212_11, x_212_12, x_212_13, x_212_14, x_212_15, x_212_18, x_212_21, x_212_24, x_212_25, x_212_26, x_212_27, x_212_28, x_212_29, x_212_30, x_212_33, x_212_34, x_212_35, x_212_36, x_212_37, x_212_38, x_212_39, x_212_42, x_212_45, x_212_48, x_212_49, x_212_50, x_212_92, x_212_93, x_212_94, x_212_97, x_212_100, x_212_101, x_212_102, x_212_105, x_212_108, x_212_109, x_212_110, x_212_113, x_212_116, x_212_117, x_212_118, x_212_121, x_212_124, x_212_127, x_212_128, x_212_129, x_212_130, x_212_133, x_212_136, x_212_137, x_212_140, x_212_141, x_212_142, x_212_145, x_212_148, x_212_151, x_212_152, x_212_153, x_212_154, x_212_155, x_212_156, x_212_157, x_212_158, x_212_159, x_212_162, x_212_163, x_212_164, x_212_165, x_212_166, x_212_167, x_212_170, x_212_174, x_212_175, x_212_176, x_212_177, x_212_180, x_212_181, x_212_184, x_212_186, x_212_187, x_212_190, x_212_192, x_212_193, x_212_196, x_212_199, x_212_202, x_212_204, x_212_205, x_212_206, x_212_207, x_212_209, x_212_210, x_212_213, x_212_216, x_212_219, x_212_221, x_212_222, x_212_224, x_212_227, x_212_228, x_212_231, x_212_234, x_212_235, x_212_238, x_212_239, x_212_241, x_212_244, x_212_245, x_212_248, x_212_251, x_212_254, x_212_256, x_212_257, x_212_258, x_212_259, x_212_260, x_212_261, x_212_264, x_212_266, x_212_267, x_212_269, x_212_272, x_212_273, x_212_275, x_212_276, x_212_279, x_212_282, x_212_284, x_212_287, x_212_288, x_212_290, x_212_291, x_212_292, x_212_293, x_212_296, hv, hp, hk, wt_a hv hp, wt_b hv hp, wt_c hv hp, wt_d hv hp, wk_c hv, wk_d hv, wk_0 hv, wk_1 hv, ip1, gm, hj1, en1, lz, ez, hj2, en2, kq, wE, g', b0', SI_SI, Option.bind_some, mAft_n, mAft_v, mAft_x, mS_n, mS_i, mS_r, mS_l, mS_d, ne_eq, not_false_eq_true, not_true_eq_false, true_or, or_true, and_true, true_and, if_true, if_false, ite_true, ite_false, reduceIte, Nat.reduceAdd, Nat.reduceLeDiff, Nat.reduceEqDiff, false_and, and_false, or_false, false_or, eq_self, reduceCtorEq, mi_316, mi_317, ml_317, mi_318, ml_318, mi_319, ml_319, mi_320, ml_320, mi_321, ml_321, mi_322, ml_322, mi_359, ml_359, mv_316_1, mv_316_4, mv_316_7, mv_316_8, mv_316_9, mv_316_10, mv_316_13, mv_316_14, mv_316_15, pi_0, pi_1, pl_1, pv_1, pi_2, pl_2, pv_2, pi_3, pl_3, pv_3, pi_4, pl_4, pv_4, pi_5, pl_5, pv_5, pi_6, pl_6, pv_10, pi_7, pl_7, pv_11, pi_8, pl_8, pv_12, pi_9, pl_9, pv_13, pi_10, pl_10, pv_14, pi_11, pl_11, pv_15, pv_20, wi_0, wi_1, wl_1, wv_14, wi_2, wl_2, wv_15, wi_3, wl_3, wv_16, wi_4, wl_4, wv_17, wi_5, wl_5, wv_18, wv_21, pt_P, pt_v, pt_w, pt_SI, pt_SL, kM_SI, kM_SL, lI_SL, lV_SL, lK_SL, lN_SL, lL_SL, lIs_SL, nI_SI, nV_SI, nK_SI, nN_SI, nL_SI, nIs_SI, pp_c, pp_l, pp_r, pp_k, pp_k0, pp_j, pp_j0, isl]
    · rw [if_neg g]
      simp (maxDischargeDepth := 60) only [hk, x_212_0, x_212_1, x_212_4, x_212_5, x_212_6, x_212_7, x_212_8, x_212_11, x_212_12, x_212_13, x_212_14, x_212_15, x_212_18, x_212_21, x_212_24, x_212_25, x_212_26, x_212_27, x_212_28, x_212_29, x_212_30, x_212_33, x_212_34, x_212_35, x_212_36, x_212_37, x_212_38, x_212_39, x_212_42, x_212_45, x_212_48, x_212_49, x_212_50, x_212_92, x_212_93, x_212_94, x_212_97, x_212_100, x_212_101, x_212_102, x_212_105, x_212_108, x_212_109, x_212_110, x_212_113, x_212_116, x_212_117, x_212_118, x_212_121, x_212_124, x_212_127, x_212_128, x_212_129, x_212_130, x_212_133, x_212_136, x_212_137, x_212_140, x_212_141, x_212_142, x_212_145, x_212_148, x_212_151, x_212_152, x_212_153, x_212_154, x_212_155, x_212_156, x_212_157, x_212_158, x_212_159, x_212_162, x_212_163, x_212_164, x_212_165, x_212_166, x_212_167, x_212_170, x_212_174, x_212_175, x_212_176, x_212_177, x_212_180, x_212_181, x_212_184, x_212_186, x_212_187, x_212_190, x_212_192, x_212_193, x_212_196, x_212_199, x_212_202, x_212_204, x_212_205, x_212_206, x_212_207, x_212_209, x_212_210, x_212_213, x_212_216, x_212_219, x_212_221, x_212_222, x_212_224, x_212_227, x_212_228, x_212_231, x_212_234, x_212_235, x_212_238, x_212_239, x_212_241, x_212_244, x_212_245, x_212_248, x_212_251, x_212_254, x_212_256, x_212_257, x_212_258, x_212_259, x_212_260, x_212_261, x_212_264, x_212_266, x_212_267, x_212_269, x_212_272, x_212_273, x_212_275, x_212_276, x_212_279, x_212_282, x_212_284, x_212_287, x_212_288, x_212_290, x_212_291, x_212_292, x_212_293, x_212_296, hv, hp, hk, wt_a hv hp, wt_b hv hp, wt_c hv hp, wt_d hv hp, wk_c hv, wk_d hv, wk_0 hv, wk_1 hv, ip1, gm, hj1, en1, lz, ez, hj2, en2, kq, wE, g, b0', SI_SI, Option.bind_some, mAft_n, mAft_v, mAft_x, mS_n, mS_i, mS_r, mS_l, mS_d, ne_eq, not_false_eq_true, not_true_eq_false, true_or, or_true, and_true, true_and, if_true, if_false, ite_true, ite_false, reduceIte, Nat.reduceAdd, Nat.reduceLeDiff, Nat.reduceEqDiff, false_and, and_false, or_false, false_or, eq_self, reduceCtorEq, mi_316, mi_317, ml_317, mi_318, ml_318, mi_319, ml_319, mi_320, ml_320, mi_321, ml_321, mi_322, ml_322, mi_359, ml_359, mv_316_1, mv_316_4, mv_316_7, mv_316_8, mv_316_9, mv_316_10, mv_316_13, mv_316_14, mv_316_15, pi_0, pi_1, pl_1, pv_1, pi_2, pl_2, pv_2, pi_3, pl_3, pv_3, pi_4, pl_4, pv_4, pi_5, pl_5, pv_5, pi_6, pl_6, pv_10, pi_7, pl_7, pv_11, pi_8, pl_8, pv_12, pi_9, pl_9, pv_13, pi_10, pl_10, pv_14, pi_11, pl_11, pv_15, pv_20, wi_0, wi_1, wl_1, wv_14, wi_2, wl_2, wv_15, wi_3, wl_3, wv_16, wi_4, wl_4, wv_17, wi_5, wl_5, wv_18, wv_21, pt_P, pt_v, pt_w, pt_SI, pt_SL, kM_SI, kM_SL, lI_SL, lV_SL, lK_SL, lN_SL, lL_SL, lIs_SL, nI_SI, nV_SI, nK_SI, nN_SI, nL_SI, nIs_SI, pp_c, pp_l, pp_r, pp_k, pp_k0, pp_j, pp_j0, isl]
  rcases alt with ⟨g, hj, hc, he⟩ | ⟨g, c3, e3, hp3, hc, he⟩
  · subst hj
    have el : pc + c1.length = pc + 1 + ct.length + 1 + c2.length := by rw [hc]; simp only [List.length_append, List.length_cons, List.length_nil]; omega
    rw [el] at s7
    rw [hc] at s4
    rw [he] at s3
    obtain ⟨N, z, s, hN, vr, hz, hlz, hi11, a', ww⟩ := at_if1 (K := vKK vs (Int32.ofNat who) lim) (S := S) knx hp2 (EVQ_r s3) s4 s7 hx h10 ho
    have st := st1 z hz hlz.symm s6
    rw [if_neg g] at st
    cases x
    · rw [if_neg (by decide)] at ww
      refine ⟨h3, _, vSent S, N, s, by omega, vr, ww, ?_, x3, hs3, fn3, m00, m011, F3, hr, by rw [vSent_p.2.2.1]; omega, vSent_p.2.2.2, ?_, fq1 (Nat.le_refl q)⟩
      · rw [st, x_212_232, ← hh3]
        simp (maxDischargeDepth := 60) only [hk, x_212_0, x_212_1, x_212_4, x_212_5, x_212_6, x_212_7, x_212_8, x_212_11, x_212_12, x_212_13, x_212_14, x_212_15, x_212_18, x_212_21, x_212_24, x_212_25, x_212_26, x_212_27, x_212_28, x_212_29, x_212_30, x_212_33, x_212_34, x_212_35, x_212_36, x_212_37, x_212_38, x_212_39, x_212_42, x_212_45, x_212_48, x_212_49, x_212_50, x_212_92, x_212_93, x_212_94, x_212_97, x_212_100, x_212_101, x_212_102, x_212_105, x_212_108, x_212_109, x_212_110, x_212_113, x_212_116, x_212_117, x_212_118, x_212_121, x_212_124, x_212_127, x_212_128, x_212_129, x_212_130, x_212_133, x_212_136, x_212_137, x_212_140, x_212_141, x_212_142, x_212_145, x_212_148, x_212_151, x_212_152, x_212_153, x_212_154, x_212_155, x_212_156, x_212_157, x_212_158, x_212_159, x_212_162, x_212_163, x_212_164, x_212_165, x_212_166, x_212_167, x_212_170, x_212_173, x_212_174, x_212_175, x_212_176, x_212_177, x_212_180, x_212_181, x_212_184, x_212_186, x_212_187, x_212_190, x_212_192, x_212_193, x_212_196, x_212_199, x_212_202, x_212_204, x_212_205, x_212_206, x_212_207, x_212_209, x_212_210, x_212_213, x_212_216, x_212_219, x_212_221, x_212_222, x_212_224, x_212_227, x_212_228, x_212_231, x_212_234, x_212_235, x_212_238, x_212_239, x_212_241, x_212_244, x_212_245, x_212_248, x_212_251, x_212_254, x_212_256, x_212_257, x_212_258, x_212_259, x_212_260, x_212_261, x_212_264, x_212_266, x_212_267, x_212_269, x_212_272, x_212_273, x_212_275, x_212_276, x_212_279, x_212_282, x_212_284, x_212_287, x_212_288, x_212_290, x_212_291, x_212_292, x_212_293, x_212_296, hv, hp, hk, wt_a hv hp, wt_b hv hp, wt_c hv hp, wt_d hv hp, wk_c hv, wk_d hv, wk_0 hv, wk_1 hv, hjf, enf, bz_0, Option.bind_some, mAft_n, mAft_v, mAft_x, mS_n, mS_i, mS_r, mS_l, mS_d, ne_eq, not_false_eq_true, not_true_eq_false, true_or, or_true, and_true, true_and, if_true, if_false, ite_true, ite_false, reduceIte, Nat.reduceAdd, Nat.reduceLeDiff, Nat.reduceEqDiff, false_and, and_false, or_false, false_or, eq_self, reduceCtorEq, mi_316, mi_317, ml_317, mi_318, ml_318, mi_319, ml_319, mi_320, ml_320, mi_321, ml_321, mi_322, ml_322, mi_359, ml_359, mv_316_1, mv_316_4, mv_316_7, mv_316_8, mv_316_9, mv_316_10, mv_316_13, mv_316_14, mv_316_15, pi_0, pi_1, pl_1, pv_1, pi_2, pl_2, pv_2, pi_3, pl_3, pv_3, pi_4, pl_4, pv_4, pi_5, pl_5, pv_5, pi_6, pl_6, pv_10, pi_7, pl_7, pv_11, pi_8, pl_8, pv_12, pi_9, pl_9, pv_13, pi_10, pl_10, pv_14, pi_11, pl_11, pv_15, pv_20, wi_0, wi_1, wl_1, wv_14, wi_2, wl_2, wv_15, wi_3, wl_3, wv_16, wi_4, wl_4, wv_17, wi_5, wl_5, wv_18, wv_21, pt_P, pt_v, pt_w, pt_SI, pt_SL, kM_SI, kM_SL, lI_SL, lV_SL, lK_SL, lN_SL, lL_SL, lIs_SL, nI_SI, nV_SI, nK_SI, nN_SI, nL_SI, nIs_SI, pp_c, pp_l, pp_r, pp_k, pp_k0, pp_j, pp_j0, isl]
      · rw [phi_c, phi_c]
        have := phi_nx (nx := nx) (nx' := l) (en := en) (fi := fi) (ti := ti) (a := a) (q := q)
        omega
    · rw [if_pos rfl] at ww
      refine endN N i1 z a' s hN vr hz hi1 ha1 ww (fun H y1 hkH => ?_)
      rw [st, x_212_232]
      rw [← hh3] at y1
      simp (maxDischargeDepth := 60) only [hk, x_212_0, x_212_1, x_212_4, x_212_5, x_212_6, x_212_7, x_212_8, x_212_11, x_212_12, x_212_13, x_212_14, x_212_15, x_212_18, x_212_21, x_212_24, x_212_25, x_212_26, x_212_27, x_212_28, x_212_29, x_212_30, x_212_33, x_212_34, x_212_35, x_212_36, x_212_37, x_212_38, x_212_39, x_212_42, x_212_45, x_212_48, x_212_49, x_212_50, x_212_92, x_212_93, x_212_94, x_212_97, x_212_100, x_212_101, x_212_102, x_212_105, x_212_108, x_212_109, x_212_110, x_212_113, x_212_116, x_212_117, x_212_118, x_212_121, x_212_124, x_212_127, x_212_128, x_212_129, x_212_130, x_212_133, x_212_136, x_212_137, x_212_140, x_212_141, x_212_142, x_212_145, x_212_148, x_212_151, x_212_152, x_212_153, x_212_154, x_212_155, x_212_156, x_212_157, x_212_158, x_212_159, x_212_162, x_212_163, x_212_164, x_212_165, x_212_166, x_212_167, x_212_170, x_212_173, x_212_174, x_212_175, x_212_176, x_212_177, x_212_180, x_212_181, x_212_184, x_212_186, x_212_187, x_212_190, x_212_192, x_212_193, x_212_196, x_212_199, x_212_202, x_212_204, x_212_205, x_212_206, x_212_207, x_212_209, x_212_210, x_212_213, x_212_216, x_212_219, x_212_221, x_212_222, x_212_224, x_212_227, x_212_228, x_212_231, x_212_234, x_212_235, x_212_238, x_212_239, x_212_241, x_212_244, x_212_245, x_212_248, x_212_251, x_212_254, x_212_256, x_212_257, x_212_258, x_212_259, x_212_260, x_212_261, x_212_264, x_212_266, x_212_267, x_212_269, x_212_272, x_212_273, x_212_275, x_212_276, x_212_279, x_212_282, x_212_284, x_212_287, x_212_288, x_212_290, x_212_291, x_212_292, x_212_293, x_212_296, hv, hp, hk, wt_a hv hp, wt_b hv hp, wt_c hv hp, wt_d hv hp, wk_c hv, wk_d hv, wk_0 hv, wk_1 hv, hjf, enf, bz_0, Bool.true_eq_false, y1, hkH, Option.bind_some, mAft_n, mAft_v, mAft_x, mS_n, mS_i, mS_r, mS_l, mS_d, ne_eq, not_false_eq_true, not_true_eq_false, true_or, or_true, and_true, true_and, if_true, if_false, ite_true, ite_false, reduceIte, Nat.reduceAdd, Nat.reduceLeDiff, Nat.reduceEqDiff, false_and, and_false, or_false, false_or, eq_self, reduceCtorEq, mi_316, mi_317, ml_317, mi_318, ml_318, mi_319, ml_319, mi_320, ml_320, mi_321, ml_321, mi_322, ml_322, mi_359, ml_359, mv_316_1, mv_316_4, mv_316_7, mv_316_8, mv_316_9, mv_316_10, mv_316_13, mv_316_14, mv_316_15, pi_0, pi_1, pl_1, pv_1, pi_2, pl_2, pv_2, pi_3, pl_3, pv_3, pi_4, pl_4, pv_4, pi_5, pl_5, pv_5, pi_6, pl_6, pv_10, pi_7, pl_7, pv_11, pi_8, pl_8, pv_12, pi_9, pl_9, pv_13, pi_10, pl_10, pv_14, pi_11, pl_11, pv_15, pv_20, wi_0, wi_1, wl_1, wv_14, wi_2, wl_2, wv_15, wi_3, wl_3, wv_16, wi_4, wl_4, wv_17, wi_5, wl_5, wv_18, wv_21, pt_P, pt_v, pt_w, pt_SI, pt_SL, kM_SI, kM_SL, lI_SL, lV_SL, lK_SL, lN_SL, lL_SL, lIs_SL, nI_SI, nV_SI, nK_SI, nN_SI, nL_SI, nIs_SI, pp_c, pp_l, pp_r, pp_k, pp_k0, pp_j, pp_j0, isl]
  · have el : pc + c1.length = pc + 1 + ct.length + 1 + c2.length + 1 + c3.length := by rw [hc]; simp only [List.length_append, List.length_cons, List.length_nil]; omega
    rw [el] at s7
    rw [hc] at s4
    rw [he] at s3
    obtain ⟨N, z, z3, s, hN, vr, hz, hlz, hi11, hz3, hl3, hi22, a', ww⟩ := at_if2 (K := vKK vs (Int32.ofNat who) lim) (S := S) knx hp2 hp3 (EVQ_r (EVQ_l s3)) (EVQ_r s3) s4 s7 hx h10 ho
    have st := st1 z hz hlz.symm (by omega)
    rw [if_pos g] at st
    have lz3 := (x1.2.2.2.2.1 (i2 + 1) (by omega)).2.2
    rw [hz3] at lz3
    have hj3 : mIn (Int32.ofNat (i2 + 1)) 402 = true := i_in (by rw [i_of_i (by omega)]; omega) (by rw [i_of_i (by omega)]; omega)
    have en3 : (Int32.ofNat (i2 + 1)).toNatClampNeg = i2 + 1 := i_of_n (by omega)
    have ez3 : Int32.ofNat z3 + 1 = Int32.ofNat l := by rw [i_succ, hl3]
    have ipi : Int32.ofNat i2 + 1 = Int32.ofNat (i2 + 1) := i_succ
    cases x
    · rw [if_neg (by decide)] at ww
      refine endN N (i2 + 1) z3 a' s hN vr hz3 (by omega) ha1 ww (fun H y1 hkH => ?_)
      rw [st, x_212_232]
      rw [← hh3] at y1
      simp (maxDischargeDepth := 60) only [hk, x_212_0, x_212_1, x_212_4, x_212_5, x_212_6, x_212_7, x_212_8, x_212_11, x_212_12, x_212_13, x_212_14, x_212_15, x_212_18, x_212_21, x_212_24, x_212_25, x_212_26, x_212_27, x_212_28, x_212_29, x_212_30, x_212_33, x_212_34, x_212_35, x_212_36, x_212_37, x_212_38, x_212_39, x_212_42, x_212_45, x_212_48, x_212_49, x_212_50, x_212_92, x_212_93, x_212_94, x_212_97, x_212_100, x_212_101, x_212_102, x_212_105, x_212_108, x_212_109, x_212_110, x_212_113, x_212_116, x_212_117, x_212_118, x_212_121, x_212_124, x_212_127, x_212_128, x_212_129, x_212_130, x_212_133, x_212_136, x_212_137, x_212_140, x_212_141, x_212_142, x_212_145, x_212_148, x_212_151, x_212_152, x_212_153, x_212_154, x_212_155, x_212_156, x_212_157, x_212_158, x_212_159, x_212_162, x_212_163, x_212_164, x_212_165, x_212_166, x_212_167, x_212_170, x_212_173, x_212_174, x_212_175, x_212_176, x_212_177, x_212_180, x_212_181, x_212_184, x_212_186, x_212_187, x_212_190, x_212_192, x_212_193, x_212_196, x_212_199, x_212_202, x_212_204, x_212_205, x_212_206, x_212_207, x_212_209, x_212_210, x_212_213, x_212_216, x_212_219, x_212_221, x_212_222, x_212_224, x_212_227, x_212_228, x_212_231, x_212_234, x_212_235, x_212_238, x_212_239, x_212_241, x_212_244, x_212_245, x_212_248, x_212_251, x_212_254, x_212_256, x_212_257, x_212_258, x_212_259, x_212_260, x_212_261, x_212_264, x_212_266, x_212_267, x_212_269, x_212_272, x_212_273, x_212_275, x_212_276, x_212_279, x_212_282, x_212_284, x_212_287, x_212_288, x_212_290, x_212_291, x_212_292, x_212_293, x_212_296, hv, hp, hk, wt_a hv hp, wt_b hv hp, wt_c hv hp, wt_d hv hp, wk_c hv, wk_d hv, wk_0 hv, wk_1 hv, hjf, enf, bz_0, n10, lz3, hj3, en3, ez3, ipi, y1, hkH, Option.bind_some, mAft_n, mAft_v, mAft_x, mS_n, mS_i, mS_r, mS_l, mS_d, ne_eq, not_false_eq_true, not_true_eq_false, true_or, or_true, and_true, true_and, if_true, if_false, ite_true, ite_false, reduceIte, Nat.reduceAdd, Nat.reduceLeDiff, Nat.reduceEqDiff, false_and, and_false, or_false, false_or, eq_self, reduceCtorEq, mi_316, mi_317, ml_317, mi_318, ml_318, mi_319, ml_319, mi_320, ml_320, mi_321, ml_321, mi_322, ml_322, mi_359, ml_359, mv_316_1, mv_316_4, mv_316_7, mv_316_8, mv_316_9, mv_316_10, mv_316_13, mv_316_14, mv_316_15, pi_0, pi_1, pl_1, pv_1, pi_2, pl_2, pv_2, pi_3, pl_3, pv_3, pi_4, pl_4, pv_4, pi_5, pl_5, pv_5, pi_6, pl_6, pv_10, pi_7, pl_7, pv_11, pi_8, pl_8, pv_12, pi_9, pl_9, pv_13, pi_10, pl_10, pv_14, pi_11, pl_11, pv_15, pv_20, wi_0, wi_1, wl_1, wv_14, wi_2, wl_2, wv_15, wi_3, wl_3, wv_16, wi_4, wl_4, wv_17, wi_5, wl_5, wv_18, wv_21, pt_P, pt_v, pt_w, pt_SI, pt_SL, kM_SI, kM_SL, lI_SL, lV_SL, lK_SL, lN_SL, lL_SL, lIs_SL, nI_SI, nV_SI, nK_SI, nN_SI, nL_SI, nIs_SI, pp_c, pp_l, pp_r, pp_k, pp_k0, pp_j, pp_j0, isl]
    · rw [if_pos rfl] at ww
      refine endN N i1 z a' s hN vr hz hi1 ha1 ww (fun H y1 hkH => ?_)
      rw [st, x_212_232]
      rw [← hh3] at y1
      simp (maxDischargeDepth := 60) only [hk, x_212_0, x_212_1, x_212_4, x_212_5, x_212_6, x_212_7, x_212_8, x_212_11, x_212_12, x_212_13, x_212_14, x_212_15, x_212_18, x_212_21, x_212_24, x_212_25, x_212_26, x_212_27, x_212_28, x_212_29, x_212_30, x_212_33, x_212_34, x_212_35, x_212_36, x_212_37, x_212_38, x_212_39, x_212_42, x_212_45, x_212_48, x_212_49, x_212_50, x_212_92, x_212_93, x_212_94, x_212_97, x_212_100, x_212_101, x_212_102, x_212_105, x_212_108, x_212_109, x_212_110, x_212_113, x_212_116, x_212_117, x_212_118, x_212_121, x_212_124, x_212_127, x_212_128, x_212_129, x_212_130, x_212_133, x_212_136, x_212_137, x_212_140, x_212_141, x_212_142, x_212_145, x_212_148, x_212_151, x_212_152, x_212_153, x_212_154, x_212_155, x_212_156, x_212_157, x_212_158, x_212_159, x_212_162, x_212_163, x_212_164, x_212_165, x_212_166, x_212_167, x_212_170, x_212_173, x_212_174, x_212_175, x_212_176, x_212_177, x_212_180, x_212_181, x_212_184, x_212_186, x_212_187, x_212_190, x_212_192, x_212_193, x_212_196, x_212_199, x_212_202, x_212_204, x_212_205, x_212_206, x_212_207, x_212_209, x_212_210, x_212_213, x_212_216, x_212_219, x_212_221, x_212_222, x_212_224, x_212_227, x_212_228, x_212_231, x_212_234, x_212_235, x_212_238, x_212_239, x_212_241, x_212_244, x_212_245, x_212_248, x_212_251, x_212_254, x_212_256, x_212_257, x_212_258, x_212_259, x_212_260, x_212_261, x_212_264, x_212_266, x_212_267, x_212_269, x_212_272, x_212_273, x_212_275, x_212_276, x_212_279, x_212_282, x_212_284, x_212_287, x_212_288, x_212_290, x_212_291, x_212_292, x_212_293, x_212_296, hv, hp, hk, wt_a hv hp, wt_b hv hp, wt_c hv hp, wt_d hv hp, wk_c hv, wk_d hv, wk_0 hv, wk_1 hv, hjf, enf, bz_0, Bool.true_eq_false, n10, lz3, hj3, en3, ez3, ipi, y1, hkH, Option.bind_some, mAft_n, mAft_v, mAft_x, mS_n, mS_i, mS_r, mS_l, mS_d, ne_eq, not_false_eq_true, not_true_eq_false, true_or, or_true, and_true, true_and, if_true, if_false, ite_true, ite_false, reduceIte, Nat.reduceAdd, Nat.reduceLeDiff, Nat.reduceEqDiff, false_and, and_false, or_false, false_or, eq_self, reduceCtorEq, mi_316, mi_317, ml_317, mi_318, ml_318, mi_319, ml_319, mi_320, ml_320, mi_321, ml_321, mi_322, ml_322, mi_359, ml_359, mv_316_1, mv_316_4, mv_316_7, mv_316_8, mv_316_9, mv_316_10, mv_316_13, mv_316_14, mv_316_15, pi_0, pi_1, pl_1, pv_1, pi_2, pl_2, pv_2, pi_3, pl_3, pv_3, pi_4, pl_4, pv_4, pi_5, pl_5, pv_5, pi_6, pl_6, pv_10, pi_7, pl_7, pv_11, pi_8, pl_8, pv_12, pi_9, pl_9, pv_13, pi_10, pl_10, pv_14, pi_11, pl_11, pv_15, pv_20, wi_0, wi_1, wl_1, wv_14, wi_2, wl_2, wv_15, wi_3, wl_3, wv_16, wi_4, wl_4, wv_17, wi_5, wl_5, wv_18, wv_21, pt_P, pt_v, pt_w, pt_SI, pt_SL, kM_SI, kM_SL, lI_SL, lV_SL, lK_SL, lN_SL, lL_SL, lIs_SL, nI_SI, nV_SI, nK_SI, nN_SI, nL_SI, nIs_SI, pp_c, pp_l, pp_r, pp_k, pp_k0, pp_j, pp_j0, isl]
theorem j_sen {D v who nx en fi ti a q pc : Nat} {lim : Int32} {S : VS} {fs : List FRM} {ls' rs : List Int32} {h : mH} {cl : List CL} {dn : List NS} {ps : List PT} {vs : List (Int32 × Int32 × Int32)} {k : Nat → Nat} {n : Nat} {V L : Nat → Int32} {nt : Nat} {T : Nat → Nat} {E : EV} (m : xT h v who cl dn ps vs k n V L nt T) (hs : wS h v who lim (vSent S)) (f : frS h v ((nx, en, fi, ti, a, q) :: fs)) (hE1 : E.1 = cl) (hE2 : E.2.1 = dn) (hE3 : E.2.2.1 = ps) (hT : TOU k n V L ps.length E nt T) (hr : ∃ r, r < 12 ∧ S.2.1 = Int32.ofNat r) (hl : S.2.2.2.2.2.2.2.2.2.length + 6 ≤ 1920) (hq6 : q ≤ nt) (hA : AT k n V L ps.length E ((nx, en, fi, ti, a, q) :: fs) pc ls' rs) (hne : ¬ nx = en) (ho : ovr (vKK vs (Int32.ofNat who) lim) S = false) : SOUT (D + 28) v who lim S pc nx en fi ti a q fs ls' rs h cl dn ps vs k n V L nt T E := by
  obtain ⟨l, c1, e1, s1, _⟩ := at_next hA hne
  rcases isSe_c s1 with g | g | g | g | g | g
  · exact j_go m hs f hE1 hE2 hE3 hT hr hl hq6 hA hne ho g
  · exact j_play m hs f hE1 hE2 hE3 hT hr hl hq6 hA hne ho g
  · exact j_rest m hs f hE1 hE2 hE3 hT hr hl hq6 hA hne ho g
  · exact j_call m hs f hE1 hE2 hE3 hT hr hl hq6 hA hne ho g
  · exact j_if m hs f hE1 hE2 hE3 hT hr hl hq6 hA hne ho g
  · exact j_rep m hs f hE1 hE2 hE3 hT hr hl hq6 hA hne ho g
