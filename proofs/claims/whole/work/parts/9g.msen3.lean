/-! SENTENCES: BOTH SIDES, CALLS AND REPETITIONS -/
theorem j_call {D v who nx en fi ti a q pc : Nat} {lim : Int32} {S : VS} {fs : List FRM} {ls' rs : List Int32} {h : mH} {cl : List CL} {dn : List NS} {ps : List PT} {vs : List (Int32 × Int32 × Int32)} {k : Nat → Nat} {n : Nat} {V L : Nat → Int32} {nt : Nat} {T : Nat → Nat} {E : EV} (m : xT h v who cl dn ps vs k n V L nt T) (hs : wS h v who lim (vSent S)) (f : frS h v ((nx, en, fi, ti, a, q) :: fs)) (hE1 : E.1 = cl) (hE2 : E.2.1 = dn) (hE3 : E.2.2.1 = ps) (hT : TOU k n V L ps.length E nt T) (hr : ∃ r, r < 12 ∧ S.2.1 = Int32.ofNat r) (hl : S.2.2.2.2.2.2.2.2.2.length + 6 ≤ 1920) (hq6 : q ≤ nt) (hA : AT k n V L ps.length E ((nx, en, fi, ti, a, q) :: fs) pc ls' rs) (hne : ¬ nx = en) (ho : ovr (vKK vs (Int32.ofNat who) lim) S = false) (hk17 : k nx = 17) : SOUT (D + 28) v who lim S pc nx en fi ti a q fs ls' rs h cl dn ps vs k n V L nt T E := by
  obtain ⟨l, c1, e1, s1, s2, s3, s4, s5, s6, s7⟩ := at_next hA hne
  have s2' : pLeaf k 17 5 29 69 nx pc = (l, some (c1, e1)) := by rw [← s2]; unfold pSen; rw [if_neg (by omega), if_neg (by omega), if_neg (by omega), if_pos hk17]
  obtain ⟨_, k29, k37, hj, hc, he⟩ := leaf_inv s2'
  subst hc
  have m0 := m
  obtain ⟨w, hv, hwh, hn, tk', k50, knx, hnt, tt⟩ := m
  obtain ⟨x, hx, hVx⟩ := (s3 (69, nx + 1, 0) (by rw [he]; simp)).2.2.1 rfl
  have hVx' : V (nx + 1) = Int32.ofNat x := hVx
  have hn1 := knx nx (by omega) (by omega)
  have st0 := m_sen0 (d := D + 27) m0 f s1 hVx' hn1
  rw [if_neg (by omega), if_neg (by omega), if_neg (by omega), if_pos hk17] at st0
  have fv : Fr [v + 2] h (mSI h (v + 2) fs.length (Int32.ofNat (nx + 3))) := Fr_SI ⟨rfl, fun _ _ _ => rfl⟩ (by simp)
  have hWv : ∀ b, b ∈ [v + 2] → b = 322 ∨ 347 ≤ b := by intro b hb; simp only [List.mem_cons, List.not_mem_nil, or_false] at hb; rcases hv with rfl | rfl <;> omega
  have x1 := xT_Fr fv hWv m0
  have hk1 := x1.1.1
  have hp := pt_P hk1
  have hs1 := wS_Fr fv (by simp) (by simp) hs
  have fn := frS_nx (nx' := nx + 3) f
  obtain ⟨z, s, vr, hz, ww⟩ := at_call (K := vKK vs (Int32.ofNat who) lim) (S := S) knx hT (by omega) hx s7 hVx' s4 ho
  have hTx := (hT.2 x (by omega)).1
  obtain ⟨c0, w1, w2, w3, w4, w5, w6, w7, _⟩ := hA
  obtain ⟨H, y1, y2, y3, y4⟩ := m_enter (d := D + 26) (b := T x) (z := z) (m := 1) (a := 7) (q := x) hk1 hv fn (by rw [List.length_cons]; omega) (by omega) ((x1.2.2.2.2.1 (T x) hTx).2.2.trans hz)
  have ht := x1.2.2.2.2.2.2.2.2 x (by omega)
  have hj6 : mIn (Int32.ofNat x) 6 = true := i_in (by rw [i_of_i (by omega)]; omega) (by rw [i_of_i (by omega)]; omega)
  have en6 : (Int32.ofNat x).toNatClampNeg = x := i_of_n (by omega)
  have F : Fr (WV v) h H := Fr_trans (Fr_mono fv (by unfold WV; simp)) (Fr_mono y4 (by unfold WF WV; simp))
  refine ⟨H, _, vSent S, 2, s, by omega, vr, ww, ?_, xT_Fr F (WV_ok hv) m0, wS_KF y3 (by funext y; exact Fr_I y4 (by unfold WF; simp)) hs1, ?_, ?_, ?_, F, hr, by rw [vSent_p.2.2.1]; omega, vSent_p.2.2.2, ?_, fq2 (Nat.le_of_lt hx) (Nat.le_refl q)⟩
  · rw [st0]
    have hk := hk1
    have hkH := kM_Fr' y4 hk1
    have y1' : mCall (D + 27) 199 [.ref v, .int (Int32.ofNat (T x)), .int 1] (mSI h (v + 2) fs.length (Int32.ofNat (nx + 3))) = some (.inl none, H) := y1
    rw [x_212_116]
    generalize mSI h (v + 2) fs.length (Int32.ofNat (nx + 3)) = h1 at *
    simp (maxDischargeDepth := 60) only [hk, x_212_0, x_212_1, x_212_4, x_212_5, x_212_6, x_212_7, x_212_8, x_212_11, x_212_12, x_212_13, x_212_14, x_212_15, x_212_18, x_212_21, x_212_24, x_212_25, x_212_26, x_212_27, x_212_28, x_212_29, x_212_30, x_212_33, x_212_34, x_212_35, x_212_36, x_212_37, x_212_38, x_212_39, x_212_42, x_212_45, x_212_48, x_212_49, x_212_50, x_212_92, x_212_93, x_212_94, x_212_97, x_212_100, x_212_101, x_212_102, x_212_105, x_212_108, x_212_109, x_212_110, x_212_113, x_212_117, x_212_118, x_212_121, x_212_124, x_212_127, x_212_128, x_212_129, x_212_130, x_212_133, x_212_136, x_212_137, x_212_140, x_212_141, x_212_142, x_212_145, x_212_148, x_212_151, x_212_152, x_212_153, x_212_154, x_212_155, x_212_156, x_212_157, x_212_158, x_212_159, x_212_162, x_212_163, x_212_164, x_212_165, x_212_166, x_212_167, x_212_170, x_212_173, x_212_174, x_212_175, x_212_176, x_212_177, x_212_180, x_212_181, x_212_184, x_212_186, x_212_187, x_212_190, x_212_192, x_212_193, x_212_196, x_212_199, x_212_202, x_212_204, x_212_205, x_212_206, x_212_207, x_212_209, x_212_210, x_212_213, x_212_216, x_212_219, x_212_221, x_212_222, x_212_224, x_212_227, x_212_228, x_212_231, x_212_232, x_212_234, x_212_235, x_212_238, x_212_239, x_212_241, x_212_244, x_212_245, x_212_248, x_212_251, x_212_254, x_212_256, x_212_257, x_212_258, x_212_259, x_212_260, x_212_261, x_212_264, x_212_266, x_212_267, x_212_269, x_212_272, x_212_273, x_212_275, x_212_276, x_212_279, x_212_282, x_212_284, x_212_287, x_212_288, x_212_290, x_212_291, x_212_292, x_212_293, x_212_296, hv, hp, hk, wt_a hv hp, wt_b hv hp, wt_c hv hp, wt_d hv hp, wk_c hv, wk_d hv, wk_0 hv, wk_1 hv, ht, hj6, en6, y1', hkH, Option.bind_some, mAft_n, mAft_v, mAft_x, mS_n, mS_i, mS_r, mS_l, mS_d, ne_eq, not_false_eq_true, not_true_eq_false, true_or, or_true, and_true, true_and, if_true, if_false, ite_true, ite_false, reduceIte, Nat.reduceAdd, Nat.reduceLeDiff, Nat.reduceEqDiff, false_and, and_false, or_false, false_or, eq_self, reduceCtorEq, mi_316, mi_317, ml_317, mi_318, ml_318, mi_319, ml_319, mi_320, ml_320, mi_321, ml_321, mi_322, ml_322, mi_359, ml_359, mv_316_1, mv_316_4, mv_316_7, mv_316_8, mv_316_9, mv_316_10, mv_316_13, mv_316_14, mv_316_15, pi_0, pi_1, pl_1, pv_1, pi_2, pl_2, pv_2, pi_3, pl_3, pv_3, pi_4, pl_4, pv_4, pi_5, pl_5, pv_5, pi_6, pl_6, pv_10, pi_7, pl_7, pv_11, pi_8, pl_8, pv_12, pi_9, pl_9, pv_13, pi_10, pl_10, pv_14, pi_11, pl_11, pv_15, pv_20, wi_0, wi_1, wl_1, wv_14, wi_2, wl_2, wv_15, wi_3, wl_3, wv_16, wi_4, wl_4, wv_17, wi_5, wl_5, wv_18, wv_21, pt_P, pt_v, pt_w, pt_SI, pt_SL, kM_SI, kM_SL, lI_SL, lV_SL, lK_SL, lN_SL, lL_SL, lIs_SL, nI_SI, nV_SI, nK_SI, nN_SI, nL_SI, nIs_SI, pp_c, pp_l, pp_r, pp_k, pp_k0, pp_j, pp_j0, isl]
  · rw [hj]; exact y2
  · rw [y3 0 (by decide), mI_SI_other (by omega)]
  · rw [y3 11 (by decide), mI_SI_other (by omega)]
  · rw [phi_c, phi_c, phi_c]
    have := phi_nx (nx := nx) (nx' := l) (en := en) (fi := fi) (ti := ti) (a := a) (q := q)
    have := phi_new (nx := T x + 1) (en := z) (fi := T x + 1) (ti := 1) (a := 7) (q := x) (by omega)
    omega
theorem j_rep {D v who nx en fi ti a q pc : Nat} {lim : Int32} {S : VS} {fs : List FRM} {ls' rs : List Int32} {h : mH} {cl : List CL} {dn : List NS} {ps : List PT} {vs : List (Int32 × Int32 × Int32)} {k : Nat → Nat} {n : Nat} {V L : Nat → Int32} {nt : Nat} {T : Nat → Nat} {E : EV} (m : xT h v who cl dn ps vs k n V L nt T) (hs : wS h v who lim (vSent S)) (f : frS h v ((nx, en, fi, ti, a, q) :: fs)) (hE1 : E.1 = cl) (hE2 : E.2.1 = dn) (hE3 : E.2.2.1 = ps) (hT : TOU k n V L ps.length E nt T) (hr : ∃ r, r < 12 ∧ S.2.1 = Int32.ofNat r) (hl : S.2.2.2.2.2.2.2.2.2.length + 6 ≤ 1920) (hq6 : q ≤ nt) (hA : AT k n V L ps.length E ((nx, en, fi, ti, a, q) :: fs) pc ls' rs) (hne : ¬ nx = en) (ho : ovr (vKK vs (Int32.ofNat who) lim) S = false) (hk16 : k nx = 16) : SOUT (D + 28) v who lim S pc nx en fi ti a q fs ls' rs h cl dn ps vs k n V L nt T E := by
  obtain ⟨l, c1, e1, s1, s2, s3, s4, s5, s6, s7⟩ := at_next hA hne
  have s2' : pRep k (pBlock k a) nx pc = (l, some (c1, e1)) := by rw [← s2]; unfold pSen; rw [if_neg (by omega), if_neg (by omega), if_neg (by omega), if_neg (by omega), if_neg (by omega), if_pos hk16]
  obtain ⟨c2, e2, _, k30, hb, hc, he⟩ := rep_inv s2'
  have m0 := m
  obtain ⟨w, hv, hwh, hn, tk', k50, knx, hnt, tt⟩ := m
  rw [he] at s3
  obtain ⟨x, hx, hVx⟩ := (s3 (74, nx + 1, 0) (by simp)).2.2.2.1 rfl
  have hVx' : V (nx + 1) = Int32.ofNat x := hVx
  have hn1 := knx nx (by omega) (by omega)
  have hn2 : nx + 1 + 1 < n := knx (nx + 1) (by omega) (by omega)
  have st0 := m_sen0 (d := D + 27) m0 f s1 hVx' hn1
  rw [if_neg (by omega), if_neg (by omega), if_neg (by omega), if_neg (by omega), if_pos hk16] at st0
  have el : pc + c1.length = pc + 3 + c2.length + 1 := by rw [hc]; simp only [List.length_append, List.length_cons, List.length_nil]; omega
  rw [el] at s7
  rw [hc] at s4
  obtain ⟨z, s, vr, hz, hlz, hi3, a', ww⟩ := at_rep (K := vKK vs (Int32.ofNat who) lim) (S := S) (i := nx) knx hb (EVQ_r s3) hx hVx' s4 s7 ho
  obtain ⟨c0, w1, w2, w3, w4, w5, w6, w7, _⟩ := hA
  have ha1 : 1 ≤ a := by
    obtain ⟨a2, _, _, h2, _⟩ := blk_inv hb
    omega
  have fv : Fr [v + 2] h (mSI h (v + 2) fs.length (Int32.ofNat l)) := Fr_SI ⟨rfl, fun _ _ _ => rfl⟩ (by simp)
  have hWv : ∀ b, b ∈ [v + 2] → b = 322 ∨ 347 ≤ b := by intro b hb; simp only [List.mem_cons, List.not_mem_nil, or_false] at hb; rcases hv with rfl | rfl <;> omega
  have x1 := xT_Fr fv hWv m0
  have hk1 := x1.1.1
  have hk := w.1
  have hp := pt_P hk
  have hs1 := wS_Fr fv (by simp) (by simp) hs
  have fn := frS_nx (nx' := l) f
  have zz := (tk' (nx + 2) hn2).2.2
  rw [hz] at zz
  have hj2 : mIn (Int32.ofNat (nx + 2)) 402 = true := i_in (by rw [i_of_i (by omega)]; omega) (by rw [i_of_i (by omega)]; omega)
  have en2 : (Int32.ofNat (nx + 2)).toNatClampNeg = nx + 2 := i_of_n (by omega)
  have ip2 : Int32.ofNat nx + 2 = Int32.ofNat (nx + 2) := by rw [show (2 : Int32) = Int32.ofNat 2 from rfl, i_addof]
  have hjf : mIn (Int32.ofNat fs.length) 64 = true := i_in (by rw [i_of_i (by omega)]; omega) (by rw [i_of_i (by omega)]; omega)
  have enf : (Int32.ofNat fs.length).toNatClampNeg = fs.length := i_of_n (by omega)
  have F1 : Fr (WV v) h (mSI h (v + 2) fs.length (Int32.ofNat l)) := Fr_mono fv (by unfold WV; simp)
  subst hlz
  by_cases c0 : x = 0
  · rw [if_pos c0] at ww
    refine ⟨mSI h (v + 2) fs.length (Int32.ofNat (z + 1)), _, vSent S, 3, s, by omega, vr, ww, ?_, x1, hs1, fn, ?_, ?_, F1, hr, by rw [vSent_p.2.2.1]; omega, vSent_p.2.2.2, ?_, fq1 (Nat.le_refl q)⟩
    · rw [st0, x_212_136]
      have c0' := eq_true (show Int32.ofNat x ≤ 0 by rw [c0]; decide)
      simp (maxDischargeDepth := 60) only [hk, x_212_0, x_212_1, x_212_4, x_212_5, x_212_6, x_212_7, x_212_8, x_212_11, x_212_12, x_212_13, x_212_14, x_212_15, x_212_18, x_212_21, x_212_24, x_212_25, x_212_26, x_212_27, x_212_28, x_212_29, x_212_30, x_212_33, x_212_34, x_212_35, x_212_36, x_212_37, x_212_38, x_212_39, x_212_42, x_212_45, x_212_48, x_212_49, x_212_50, x_212_92, x_212_93, x_212_94, x_212_97, x_212_100, x_212_101, x_212_102, x_212_105, x_212_108, x_212_109, x_212_110, x_212_113, x_212_116, x_212_117, x_212_118, x_212_121, x_212_124, x_212_127, x_212_128, x_212_129, x_212_130, x_212_133, x_212_137, x_212_140, x_212_141, x_212_142, x_212_145, x_212_148, x_212_151, x_212_152, x_212_153, x_212_154, x_212_155, x_212_156, x_212_157, x_212_158, x_212_159, x_212_162, x_212_163, x_212_164, x_212_165, x_212_166, x_212_167, x_212_170, x_212_173, x_212_174, x_212_175, x_212_176, x_212_177, x_212_180, x_212_181, x_212_184, x_212_186, x_212_187, x_212_190, x_212_192, x_212_193, x_212_196, x_212_199, x_212_202, x_212_204, x_212_205, x_212_206, x_212_207, x_212_209, x_212_210, x_212_213, x_212_216, x_212_219, x_212_221, x_212_222, x_212_224, x_212_227, x_212_228, x_212_231, x_212_232, x_212_234, x_212_235, x_212_238, x_212_239, x_212_241, x_212_244, x_212_245, x_212_248, x_212_251, x_212_254, x_212_256, x_212_257, x_212_258, x_212_259, x_212_260, x_212_261, x_212_264, x_212_266, x_212_267, x_212_269, x_212_272, x_212_273, x_212_275, x_212_276, x_212_279, x_212_282, x_212_284, x_212_287, x_212_288, x_212_290, x_212_291, x_212_292, x_212_293, x_212_296, hv, hp, hk, wt_a hv hp, wt_b hv hp, wt_c hv hp, wt_d hv hp, wk_c hv, wk_d hv, wk_0 hv, wk_1 hv, ip2, hj2, en2, zz, i_succ, hjf, enf, SI_SI, c0', Option.bind_some, mAft_n, mAft_v, mAft_x, mS_n, mS_i, mS_r, mS_l, mS_d, ne_eq, not_false_eq_true, not_true_eq_false, true_or, or_true, and_true, true_and, if_true, if_false, ite_true, ite_false, reduceIte, Nat.reduceAdd, Nat.reduceLeDiff, Nat.reduceEqDiff, false_and, and_false, or_false, false_or, eq_self, reduceCtorEq, mi_316, mi_317, ml_317, mi_318, ml_318, mi_319, ml_319, mi_320, ml_320, mi_321, ml_321, mi_322, ml_322, mi_359, ml_359, mv_316_1, mv_316_4, mv_316_7, mv_316_8, mv_316_9, mv_316_10, mv_316_13, mv_316_14, mv_316_15, pi_0, pi_1, pl_1, pv_1, pi_2, pl_2, pv_2, pi_3, pl_3, pv_3, pi_4, pl_4, pv_4, pi_5, pl_5, pv_5, pi_6, pl_6, pv_10, pi_7, pl_7, pv_11, pi_8, pl_8, pv_12, pi_9, pl_9, pv_13, pi_10, pl_10, pv_14, pi_11, pl_11, pv_15, pv_20, wi_0, wi_1, wl_1, wv_14, wi_2, wl_2, wv_15, wi_3, wl_3, wv_16, wi_4, wl_4, wv_17, wi_5, wl_5, wv_18, wv_21, pt_P, pt_v, pt_w, pt_SI, pt_SL, kM_SI, kM_SL, lI_SL, lV_SL, lK_SL, lN_SL, lL_SL, lIs_SL, nI_SI, nV_SI, nK_SI, nN_SI, nL_SI, nIs_SI, pp_c, pp_l, pp_r, pp_k, pp_k0, pp_j, pp_j0, isl]
    · rw [mI_SI_other (by omega)]
    · rw [mI_SI_other (by omega)]
    · rw [phi_c, phi_c]
      have := phi_nx (nx := nx) (nx' := z + 1) (en := en) (fi := fi) (ti := ti) (a := a) (q := q)
      omega
  · rw [if_neg c0] at ww
    obtain ⟨H, y1, y2, y3, y4⟩ := m_enter (d := D + 26) (b := nx + 2) (z := z) (m := x) (a := a') (q := q) hk1 hv fn (by rw [List.length_cons]; omega) (by omega) ((x1.2.2.2.2.1 (nx + 2) hn2).2.2.trans hz)
    have F : Fr (WV v) h H := Fr_trans F1 (Fr_mono y4 (by unfold WF WV; simp))
    refine ⟨H, _, vSent S, 3, s, by omega, vr, ww, ?_, xT_Fr F (WV_ok hv) m0, wS_KF y3 (by funext y; exact Fr_I y4 (by unfold WF; simp)) hs1, y2, ?_, ?_, F, hr, by rw [vSent_p.2.2.1]; omega, vSent_p.2.2.2, ?_, fq2 (Nat.le_refl q) (Nat.le_refl q)⟩
    · rw [st0, x_212_136]
      have c0' : ¬ Int32.ofNat x ≤ 0 := by rw [show (0 : Int32) = Int32.ofNat 0 from rfl, i_ofle (by omega) (by omega)]; omega
      have hkH := kM_Fr' y4 hk1
      have y1' : mCall (D + 27) 199 [.ref v, .int (Int32.ofNat (nx + 2)), .int (Int32.ofNat x)] (mSI h (v + 2) fs.length (Int32.ofNat (z + 1))) = some (.inl none, H) := y1
      simp (maxDischargeDepth := 60) only [hk, x_212_0, x_212_1, x_212_4, x_212_5, x_212_6, x_212_7, x_212_8, x_212_11, x_212_12, x_212_13, x_212_14, x_212_15, x_212_18, x_212_21, x_212_24, x_212_25, x_212_26, x_212_27, x_212_28, x_212_29, x_212_30, x_212_33, x_212_34, x_212_35, x_212_36, x_212_37, x_212_38, x_212_39, x_212_42, x_212_45, x_212_48, x_212_49, x_212_50, x_212_92, x_212_93, x_212_94, x_212_97, x_212_100, x_212_101, x_212_102, x_212_105, x_212_108, x_212_109, x_212_110, x_212_113, x_212_116, x_212_117, x_212_118, x_212_121, x_212_124, x_212_127, x_212_128, x_212_129, x_212_130, x_212_133, x_212_137, x_212_140, x_212_141, x_212_142, x_212_145, x_212_148, x_212_151, x_212_152, x_212_153, x_212_154, x_212_155, x_212_156, x_212_157, x_212_158, x_212_159, x_212_162, x_212_163, x_212_164, x_212_165, x_212_166, x_212_167, x_212_170, x_212_173, x_212_174, x_212_175, x_212_176, x_212_177, x_212_180, x_212_181, x_212_184, x_212_186, x_212_187, x_212_190, x_212_192, x_212_193, x_212_196, x_212_199, x_212_202, x_212_204, x_212_205, x_212_206, x_212_207, x_212_209, x_212_210, x_212_213, x_212_216, x_212_219, x_212_221, x_212_222, x_212_224, x_212_227, x_212_228, x_212_231, x_212_232, x_212_234, x_212_235, x_212_238, x_212_239, x_212_241, x_212_244, x_212_245, x_212_248, x_212_251, x_212_254, x_212_256, x_212_257, x_212_258, x_212_259, x_212_260, x_212_261, x_212_264, x_212_266, x_212_267, x_212_269, x_212_272, x_212_273, x_212_275, x_212_276, x_212_279, x_212_282, x_212_284, x_212_287, x_212_288, x_212_290, x_212_291, x_212_292, x_212_293, x_212_296, hv, hp, hk, wt_a hv hp, wt_b hv hp, wt_c hv hp, wt_d hv hp, wk_c hv, wk_d hv, wk_0 hv, wk_1 hv, ip2, hj2, en2, zz, i_succ, hjf, enf, SI_SI, c0', y1', hkH, Option.bind_some, mAft_n, mAft_v, mAft_x, mS_n, mS_i, mS_r, mS_l, mS_d, ne_eq, not_false_eq_true, not_true_eq_false, true_or, or_true, and_true, true_and, if_true, if_false, ite_true, ite_false, reduceIte, Nat.reduceAdd, Nat.reduceLeDiff, Nat.reduceEqDiff, false_and, and_false, or_false, false_or, eq_self, reduceCtorEq, mi_316, mi_317, ml_317, mi_318, ml_318, mi_319, ml_319, mi_320, ml_320, mi_321, ml_321, mi_322, ml_322, mi_359, ml_359, mv_316_1, mv_316_4, mv_316_7, mv_316_8, mv_316_9, mv_316_10, mv_316_13, mv_316_14, mv_316_15, pi_0, pi_1, pl_1, pv_1, pi_2, pl_2, pv_2, pi_3, pl_3, pv_3, pi_4, pl_4, pv_4, pi_5, pl_5, pv_5, pi_6, pl_6, pv_10, pi_7, pl_7, pv_11, pi_8, pl_8, pv_12, pi_9, pl_9, pv_13, pi_10, pl_10, pv_14, pi_11, pl_11, pv_15, pv_20, wi_0, wi_1, wl_1, wv_14, wi_2, wl_2, wv_15, wi_3, wl_3, wv_16, wi_4, wl_4, wv_17, wi_5, wl_5, wv_18, wv_21, pt_P, pt_v, pt_w, pt_SI, pt_SL, kM_SI, kM_SL, lI_SL, lV_SL, lK_SL, lN_SL, lL_SL, lIs_SL, nI_SI, nV_SI, nK_SI, nN_SI, nL_SI, nIs_SI, pp_c, pp_l, pp_r, pp_k, pp_k0, pp_j, pp_j0, isl]
    · rw [y3 0 (by decide), mI_SI_other (by omega)]
    · rw [y3 11 (by decide), mI_SI_other (by omega)]
    · rw [phi_c, phi_c, phi_c]
      have := phi_nx (nx := nx) (nx' := z + 1) (en := en) (fi := fi) (ti := ti) (a := a) (q := q)
      have := phi_new (nx := nx + 3) (en := z) (fi := nx + 3) (ti := x) (a := a') (q := q) hx
      omega
